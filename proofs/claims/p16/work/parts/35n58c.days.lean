/-! days: what they do -/
theorem hloop {N : Nat} {P : Nat → Prop} (h0 : P N) (hs : ∀ k, k < N → P (k + 1) → P k) : ∀ k, k ≤ N → P k := by
  have : ∀ d k : Nat, k + d = N → P k := by
    intro d
    induction d with
    | zero =>
      intro k hk
      have e : k = N := by omega
      rw [e]
      exact h0
    | succ d ih => exact fun k hk => hs k (by omega) (ih (k + 1) (by omega))
  exact fun k hk => this (N - k) k (by omega)
theorem lClip_b {high : Int} (h : 0 ≤ high) (r : Option Int) : 0 ≤ lClip high r ∧ lClip high r ≤ high := by
  unfold lClip
  split
  · split
    · omega
    · split <;> omega
  · omega
def lcg (x : Int) : Int := (25173 * x + 13849) % 65536
def gV (W : (Int → Int) → Int → Option Int) (s : Nat → Int) (y : Nat) : Int := cl99 (s (360 + y) + lClip 99 (W (env1 s y (s (240 + y)) (s (320 + y))) 105))
def gS (W : (Int → Int) → Int → Option Int) (s : Nat → Int) (y : Nat) : Nat → Int := if s (440 + y) = 1 ∧ 0 ≤ s (280 + y) then (if 0 < s (320 + y) ∧ 2 * s (320 + y) ≤ gV W s y then sGo (su s (360 + y) (gV W s y)) y (s (280 + y)) else su s (360 + y) (gV W s y)) else s
def gF (W : (Int → Int) → Int → Option Int) (s : Nat → Int) (y : Nat) : Int := if s (440 + y) = 1 ∧ 0 ≤ s (280 + y) then (if 0 < s (320 + y) ∧ 2 * s (320 + y) ≤ gV W s y then 1 else 0) else 0
def gL (W : (Int → Int) → Int → Option Int) (s : Nat → Int) : Nat → (Nat → Int) × Int
  | 0 => (s, 0)
  | y + 1 => (gS W (gL W s y).1 y, (gL W s y).2 + gF W (gL W s y).1 y)
def fX (s : Nat → Int) : Nat → Int := su s 1130 (lcg (s 1130))
def fS (W : (Int → Int) → Int → Option Int) (s : Nat → Int) (p : Nat) : Nat → Int := if gx_and (gx_shr (s 1128) (p : Int)) 1 = 1 then (if lcg (s 1130) % 10 < lClip 10 (W (env0 (fX s) (p : Int)) 102) then su (fX s) (1120 + p) (cl99 (s (1120 + p) + lClip 999 (W (env0 (fX s) (p : Int)) 103))) else fX s) else s
def fL (W : (Int → Int) → Int → Option Int) (s : Nat → Int) : Nat → Nat → Int
  | 0 => s
  | p + 1 => fS W (fL W s p) p
def dS (W : (Int → Int) → Int → Option Int) (s : Nat → Int) : Nat → Int := su (fL W (gL W s 40).1 8) 1129 (gx_w (fL W (gL W s 40).1 8 1129 + 1))
def dN (W : (Int → Int) → Int → Option Int) (s : Nat → Int) : Nat → (Nat → Int) × Int
  | 0 => (s, 0)
  | k + 1 => (dS W (dN W s k).1, (dN W s k).2 + (gL W (dN W s k).1 40).2)
section DOK
variable {W : (Int → Int) → Int → Option Int} {s : Nat → Int}
theorem lcg_b (x : Int) : 0 ≤ lcg x ∧ lcg x ≤ 65535 := by
  unfold lcg
  omega
theorem gV_b (h : sOK s) {y : Nat} (hy : y < 40) : 0 ≤ gV W s y ∧ gV W s y ≤ 99999 := by
  have h1 := h.due y hy
  have h2 := lClip_b (high := 99) (by decide) (W (env1 s y (s (240 + y)) (s (320 + y))) 105)
  exact cl99_b (by omega)
theorem gS_ok (h : sOK s) {y : Nat} (hy : y < 40) : sOK (gS W s y) := by
  have hv := gV_b (W := W) h hy
  have h1 : sOK (su s (360 + y) (gV W s y)) := sK_due hy hv h
  unfold gS
  split
  · rename_i c
    have hh := h.hold y hy
    split
    · exact sGo_ok hy (by omega) h1
    · exact h1
  · exact h
theorem gF_b (y : Nat) : gF W s y = 0 ∨ gF W s y = 1 := by
  unfold gF
  split
  · split
    · exact .inr rfl
    · exact .inl rfl
  · exact .inl rfl
theorem gL_ok (h : sOK s) : ∀ y, y ≤ 40 → sOK (gL W s y).1 ∧ 0 ≤ (gL W s y).2 ∧ (gL W s y).2 ≤ y
  | 0, _ => ⟨h, Int.le_refl _, Int.le_refl _⟩
  | y + 1, hy => by
    obtain ⟨i1, i2, i3⟩ := gL_ok h y (by omega)
    refine ⟨gS_ok i1 (by omega), ?_⟩
    show 0 ≤ (gL W s y).2 + gF W (gL W s y).1 y ∧ (gL W s y).2 + gF W (gL W s y).1 y ≤ ((y + 1 : Nat) : Int)
    rcases gF_b (W := W) (s := (gL W s y).1) y with e | e <;> omega
theorem fX_ok (h : sOK s) : sOK (fX s) := sK_lot (lcg_b _) h
theorem fS_ok (h : sOK s) {p : Nat} (hp : p < 8) : sOK (fS W s p) := by
  have hx := fX_ok h
  have hc := h.coin p hp
  have h2 := lClip_b (high := 999) (by decide) (W (env0 (fX s) (p : Int)) 103)
  unfold fS
  split
  · rename_i c
    split
    · refine sK_coin hp (cl99_b (by omega)) (fun q => ?_) hx
      have e : fX s 1128 = s 1128 := su_ne (by decide)
      rw [e] at q
      omega
    · exact hx
  · exact h
theorem fL_ok (h : sOK s) : ∀ p, p ≤ 8 → sOK (fL W s p)
  | 0, _ => h
  | p + 1, hp => fS_ok (fL_ok h p (by omega)) (by omega)
theorem dS_ok (h : sOK s) : sOK (dS W s) := sK_day (fL_ok (gL_ok h 40 (Nat.le_refl _)).1 8 (Nat.le_refl _))
theorem dN_ok (h : sOK s) : ∀ k, k ≤ 1000 → sOK (dN W s k).1 ∧ 0 ≤ (dN W s k).2 ∧ (dN W s k).2 ≤ 40 * k
  | 0, _ => ⟨h, Int.le_refl _, Int.le_refl _⟩
  | k + 1, hk => by
    obtain ⟨i1, i2, i3⟩ := dN_ok h k (by omega)
    obtain ⟨-, j2, j3⟩ := gL_ok (W := W) i1 40 (Nat.le_refl _)
    refine ⟨dS_ok i1, ?_⟩
    show 0 ≤ (dN W s k).2 + (gL W (dN W s k).1 40).2 ∧ (dN W s k).2 + (gL W (dN W s k).1 40).2 ≤ ((40 * (k + 1) : Nat) : Int)
    omega
theorem lcg_c {x : Int} (h : 0 ≤ x ∧ x ≤ 65535) : gx_and (gx_w ((gx_w (25173 * x)) + 13849)) 65535 = lcg x := by
  rw [gx_w_id (x := 25173 * x) (by omega) (by omega), gx_w_id (by omega) (by omega)]
  obtain ⟨X, hX⟩ : ∃ X : Nat, 25173 * x + 13849 = (X : Int) := ⟨(25173 * x + 13849).toNat, by omega⟩
  unfold lcg
  rw [hX]
  have := hand_nat (X := X) (Z := 65535) (by omega) (by decide)
  have e : ((65535 : Nat) : Int) = 65535 := rfl
  rw [e] at this
  rw [this]
  have e2 : X &&& 65535 = X % 65536 := Nat.and_two_pow_sub_one_eq_mod X 16
  rw [e2]
  omega
theorem lcg_r {x : Int} (h : 0 ≤ x ∧ x ≤ 65535) : Int.tmod (gx_w ((gx_w (25173 * x)) + 13849)) 65536 = lcg x := by
  rw [gx_w_id (x := 25173 * x) (by omega) (by omega), gx_w_id (by omega) (by omega), Int.tmod_eq_emod_of_nonneg (by omega)]
  rfl
theorem t10 {x : Int} (h : 0 ≤ x) : Int.tmod x 10 = x % 10 := Int.tmod_eq_emod_of_nonneg h
end DOK
theorem aPb {s : Nat → Int} {p : Nat} (hp : p < 8) : aPers s (p : Int) ↔ gx_and (gx_shr (s 1128) (p : Int)) 1 = 1 := ⟨fun h => h.2.2, fun h => ⟨by omega, by omega, h⟩⟩
/-! the class, book 5 -/
section DY5
variable {xs : List Int32} {n : Nat} {Q : hQ} {s : Nat → Int} {m m0 : gx_M} {W : (Int → Int) → Int → Option Int}
theorem cPw5_iff (hs : sOK s) (hB : sBk 5 s m) {Y : Nat} (hY : Y < 40) : cPwd 5 13 m (Y : Int) ↔ s (440 + Y) = 1 ∧ 0 ≤ s (280 + Y) := by
  have hh := hs.hold Y hY
  unfold cPwd
  rw [cY_iff hB hY, Int.toNat_natCast]
  constructor
  · rintro ⟨h1, h2⟩
    rw [sB5_hold hB Y hY h1] at h2
    exact ⟨h1, by omega⟩
  · rintro ⟨h1, h2⟩
    refine ⟨h1, ?_⟩
    rw [sB5_hold hB Y hY h1]
    omega
theorem c135 (hL : lawR xs W m0) (hs : sOK s) (hB : sBk 5 s m) (hf : cDf 5 m0 m) (h : ∀ m', sBk 5 (gL W s 40).1 m' → cDf 5 m0 m' → Q (some (.inl (gL W s 40).2)) m') : hxn xs n yp_m135 0 [(0, .inr (.inl 69)), (1, .inr (.inl 5)), (2, .inr (.inl 44))] [] m Q := by
  have hl := hloop (N := 40) (P := fun y => ∀ m : gx_M, sBk 5 (gL W s y).1 m → cDf 5 m0 m → hxn xs n yp_m135 5 [(1, .inr (.inl 5)), (2, .inr (.inl 44)), (3, .inl (gL W s y).2), (4, .inl (y : Int))] [] m Q) (fun m hB hf => hx_dn (hr135_5 (fun _ => h m hB hf) (fun c => absurd c (by decide)) (fun c => absurd c (by decide)))) (fun y hy ih => ?_) 0 (Nat.zero_le _)
  · exact hx_pick [1, 2] (hx_dn (hr135_0 (hl m hB hf)))
  · intro m hB hf
    obtain ⟨ok, g1, g2⟩ := gL_ok (W := W) hs y (by omega)
    have ih : ∀ m, sBk 5 (gS W (gL W s y).1 y) m → cDf 5 m0 m → hxn xs n yp_m135 5 [(1, .inr (.inl 5)), (2, .inr (.inl 44)), (3, .inl ((gL W s y).2 + gF W (gL W s y).1 y)), (4, .inl ((y + 1 : Nat) : Int))] [] m Q := ih
    generalize (gL W s y).1 = t at ok ih hB
    generalize (gL W s y).2 = f at g1 g2 ih
    have hv := gV_b (W := W) ok hy
    have ho := ok.own y hy
    have hd := ok.due y hy
    have hle := ok.lent y hy
    have hb := lClip_b (high := 99) (by decide) (W (env1 t y (t (240 + y)) (t (320 + y))) 105)
    have iff := cPw5_iff ok hB hy
    refine hx_dn (hr135_5 (fun c => absurd c (by omega)) (fun _ c => ?_) (fun _ c => ?_))
    · obtain ⟨c1, c2⟩ := iff.mp c
      rw [Int.toNat_natCast, sB5_own hB y hy, sB5_lent hB y hy]
      refine cAm1 (.inl rfl) (by decide) (lawR_c (cDf_L5 hf) hL) ok hB hy (by omega) (fun m1 f1 => ?_)
      have hB1 := cLf_b (.inl rfl) f1 hB
      have hf1 := cDf_t hf (cDf_f f1)
      have e99 : lHi 105 = 99 := rfl
      rw [e99]
      have ev : (if gx_w (m1 15 y + lClip 99 (W (env1 t y (t (240 + y)) (t (320 + y))) 105)) < 99999 then gx_w (m1 15 y + lClip 99 (W (env1 t y (t (240 + y)) (t (320 + y))) 105)) else 99999) = gV W t y := by
        rw [sB5_due hB1 y hy, gx_w_id (by omega) (by omega)]
        rfl
      unfold gS gF at ih
      have cc : t (440 + y) = 1 ∧ 0 ≤ t (280 + y) := ⟨c1, c2⟩
      rw [if_pos cc, if_pos cc] at ih
      refine hx_dn (hr135_51 ?_)
      rw [Int.toNat_natCast, ev]
      have hB2 := sU_due (b := 5) (v := gV W t y) hy hB1
      have hf2 : cDf 5 m0 (gx_u m1 15 y (gV W t y)) := cDf_t hf1 (cDf_b (bFr_u (by decide)))
      have hB2 : sBk 5 (su t (360 + y) (gV W t y)) (gx_u m1 15 y (gV W t y)) := hB2
      have e15 : gx_u m1 15 y (gV W t y) 15 y = gV W t y := gx_u_self
      generalize gx_u m1 15 y (gV W t y) = M at hB2 hf2 e15 ⊢
      refine hx_dn (hr135_75 (fun d => ?_) (fun d1 d2 => ?_) (fun d1 d2 => ?_))
      · have cn : ¬ (0 < t (320 + y) ∧ 2 * t (320 + y) ≤ gV W t y) := by omega
        rw [if_neg cn, if_neg cn, Int.add_zero] at ih
        rw [ew_u (by omega)]
        exact ih _ hB2 hf2
      · rw [Int.toNat_natCast, e15, gx_w_id (by omega) (by omega)] at d2
        have cn : ¬ (0 < t (320 + y) ∧ 2 * t (320 + y) ≤ gV W t y) := by omega
        rw [if_neg cn, if_neg cn, Int.add_zero] at ih
        rw [ew_u (by omega)]
        exact ih _ hB2 hf2
      · rw [Int.toNat_natCast, e15, gx_w_id (by omega) (by omega)] at d2
        have cy : 0 < t (320 + y) ∧ 2 * t (320 + y) ≤ gV W t y := ⟨d1, d2⟩
        rw [if_pos cy, if_pos cy] at ih
        have ht2 : su t (360 + y) (gV W t y) (440 + y) = 1 := by rw [su_ne (by omega)]; exact c1
        have eh : su t (360 + y) (gV W t y) (280 + y) = t (280 + y) := su_ne (by omega)
        rw [Int.toNat_natCast, sB5_hold hB2 y hy ht2, eh]
        refine cd16 (s := su t (360 + y) (gV W t y)) hy (by rw [su_ne (by omega)]; exact ok.many y hy) hB2 ht2 (fun m2 h2 f2 => ?_)
        refine hx_dn (hr135_107 ?_)
        rw [ew_u (by omega), gx_w_id (by omega) (by omega)]
        exact ih m2 h2 (cDf_t hf2 (cDf_b f2))
    · rw [ew_u (by omega)]
      unfold gS gF at ih
      have cn : ¬ (t (440 + y) = 1 ∧ 0 ≤ t (280 + y)) := fun q => c (iff.mpr q)
      rw [if_neg cn, if_neg cn, Int.add_zero] at ih
      exact ih m hB hf
theorem c136 (hL : lawR xs W m0) (hs : sOK s) (hB : sBk 5 s m) (hf : cDf 5 m0 m) (h : ∀ m', sBk 5 (fL W s 8) m' → cDf 5 m0 m' → Q none m') : hxn xs n yp_m136 0 [(0, .inr (.inl 69)), (1, .inr (.inl 5)), (2, .inr (.inl 44))] [] m Q := by
  have hl := hloop (N := 8) (P := fun p => ∀ m : gx_M, sBk 5 (fL W s p) m → cDf 5 m0 m → hxn xs n yp_m136 2 [(1, .inr (.inl 5)), (2, .inr (.inl 44)), (3, .inl (p : Int))] [] m Q) (fun m hB hf => hx_dn (hr136_2 (fun _ => h m hB hf) (fun c => absurd c (by decide)) (fun c => absurd c (by decide)))) (fun p hp ih => ?_) 0 (Nat.zero_le _)
  · exact hx_pick [1, 2] (hx_dn (hr136_0 (hl m hB hf)))
  · intro m hB hf
    have ok := fL_ok (W := W) hs p (by omega)
    have ih : ∀ m, sBk 5 (fS W (fL W s p) p) m → cDf 5 m0 m → hxn xs n yp_m136 2 [(1, .inr (.inl 5)), (2, .inr (.inl 44)), (3, .inl ((p + 1 : Nat) : Int))] [] m Q := ih
    generalize fL W s p = t at ok ih hB
    have hx := fX_ok ok
    have hlot := ok.2.2.2.2
    have lb := lcg_b (t 1130)
    unfold fS at ih
    refine hx_dn (hr136_2 (fun c => absurd c (by omega)) (fun _ c => ?_) (fun _ c => ?_))
    · have cp := (aPb (by omega)).mp ((cP_iff hB).mp c)
      rw [if_pos cp] at ih
      rw [sB5_lot hB, lcg_c hlot, t10 lb.1]
      have hB1 : sBk 5 (fX t) (gx_u m 5 4 (lcg (t 1130))) := sU_lot (b := 5) hB
      have hf1 : cDf 5 m0 (gx_u m 5 4 (lcg (t 1130))) := cDf_t hf (cDf_b (bFr_u (by decide)))
      refine cAm0 (.inl rfl) (by decide) (lawR_c (cDf_L5 hf1) hL) hx hB1 (by omega) (fun m1 f1 => ?_)
      have hB2 := cLf_b (.inl rfl) f1 hB1
      have hf2 := cDf_t hf1 (cDf_f f1)
      have e10 : lHi 102 = 10 := rfl
      rw [e10]
      refine hx_dn (hr136_55 (fun d => ?_) (fun d => ?_))
      · rw [if_neg (by omega)] at ih
        rw [ew_u (by omega)]
        exact ih m1 hB2 hf2
      · rw [if_pos d] at ih
        refine cAm0 (.inl rfl) (by decide) (lawR_c (cDf_L5 hf2) hL) hx hB2 (by omega) (fun m2 f2 => ?_)
        have hB3 := cLf_b (.inl rfl) f2 hB2
        have hf3 := cDf_t hf2 (cDf_f f2)
        have e999 : lHi 103 = 999 := rfl
        rw [e999]
        have hb := lClip_b (high := 999) (by decide) (W (env0 (fX t) (p : Int)) 103)
        refine hx_dn (hr136_70 ?_)
        refine cd69 (s := fX t) ((aPers_su (by decide)).mpr ((cP_iff hB).mp c)) (hx.coin p hp) (by omega) hB3 (fun m3 h3 f3 => ?_)
        have et : fX t (1120 + p) = t (1120 + p) := su_ne (by omega)
        rw [et] at h3
        refine hx_dn (hr136_73 ?_)
        rw [ew_u (by omega)]
        exact ih m3 h3 (cDf_t hf3 (cDf_b f3))
    · have cp : ¬ gx_and (gx_shr (t 1128) (p : Int)) 1 = 1 := fun q => c ((cP_iff hB).mpr ((aPb hp).mpr q))
      rw [if_neg cp] at ih
      rw [ew_u (by omega)]
      exact ih m hB hf
theorem c134 {N : Nat} (hN : N ≤ 100) (hL : lawR xs W m) (hs : sOK s) (hB : sBk 5 s m) (h : ∀ m', sBk 5 (dN W s N).1 m' → cDf 5 m m' → Q (some (.inl (dN W s N).2)) m') : hxn xs n yp_m134 0 [(0, .inr (.inl 69)), (1, .inr (.inl 5)), (2, .inr (.inl 44)), (3, .inl (N : Int))] [] m Q := by
  have hl := hloop (N := N) (P := fun k => ∀ m1 : gx_M, sBk 5 (dN W s k).1 m1 → cDf 5 m m1 → hxn xs n yp_m134 6 [(0, .inr (.inl 69)), (1, .inr (.inl 5)), (2, .inr (.inl 44)), (3, .inl (N : Int)), (4, .inl (dN W s k).2), (5, .inl (k : Int))] [] m1 Q) (fun m1 hB hf => hx_dn (hr134_6 (fun _ => h m1 hB hf) (fun c => absurd c (by omega)))) (fun k hk ih => ?_) 0 (Nat.zero_le _)
  · exact hx_dn (hr134_0 (hl m hB (fun _ _ _ _ _ => rfl)))
  · intro m1 hB hf
    obtain ⟨ok, g1, g2⟩ := dN_ok (W := W) hs k (by omega)
    have ih : ∀ m1, sBk 5 (dS W (dN W s k).1) m1 → cDf 5 m m1 → hxn xs n yp_m134 6 [(0, .inr (.inl 69)), (1, .inr (.inl 5)), (2, .inr (.inl 44)), (3, .inl (N : Int)), (4, .inl ((dN W s k).2 + (gL W (dN W s k).1 40).2)), (5, .inl ((k + 1 : Nat) : Int))] [] m1 Q := ih
    generalize (dN W s k).1 = t at ok ih hB
    generalize (dN W s k).2 = f at g1 g2 ih
    obtain ⟨ok2, j2, j3⟩ := gL_ok (W := W) ok 40 (Nat.le_refl _)
    refine hx_dn (hr134_6 (fun c => absurd c (by omega)) (fun _ => ?_))
    refine c135 hL ok hB hf (fun m2 h2 f2 => ?_)
    refine hx_dn (hr134_20 ?_)
    rw [gx_w_id (by omega) (by omega)]
    refine c136 hL ok2 h2 f2 (fun m3 h3 f3 => ?_)
    refine hx_dn (hr134_29 ?_)
    rw [ew_u (by omega), sB5_day h3]
    exact ih _ (sU_day (b := 5) h3) (cDf_t f3 (cDf_b (bFr_u (by decide))))
end DY5
/-! the class, book 31 -/
section DY31
variable {xs : List Int32} {n : Nat} {Q : hQ} {s : Nat → Int} {m m0 : gx_M} {W : (Int → Int) → Int → Option Int}
theorem cPw31_iff (hs : sOK s) (hB : sBk 31 s m) {Y : Nat} (hY : Y < 40) : cPwd 31 39 m (Y : Int) ↔ s (440 + Y) = 1 ∧ 0 ≤ s (280 + Y) := by
  have hh := hs.hold Y hY
  unfold cPwd
  rw [cY_iff hB hY, Int.toNat_natCast]
  constructor
  · rintro ⟨h1, h2⟩
    rw [sB31_hold hB Y hY h1] at h2
    exact ⟨h1, by omega⟩
  · rintro ⟨h1, h2⟩
    refine ⟨h1, ?_⟩
    rw [sB31_hold hB Y hY h1]
    omega
theorem c31_135 (hL : lawR xs W m0) (hs : sOK s) (hB : sBk 31 s m) (hf : cDf 31 m0 m) (h : ∀ m', sBk 31 (gL W s 40).1 m' → cDf 31 m0 m' → Q (some (.inl (gL W s 40).2)) m') : hxn xs n yp_m135 0 [(0, .inr (.inl 69)), (1, .inr (.inl 31)), (2, .inr (.inl 44))] [] m Q := by
  have hl := hloop (N := 40) (P := fun y => ∀ m : gx_M, sBk 31 (gL W s y).1 m → cDf 31 m0 m → hxn xs n yp_m135 5 [(1, .inr (.inl 31)), (2, .inr (.inl 44)), (3, .inl (gL W s y).2), (4, .inl (y : Int))] [] m Q) (fun m hB hf => hx_dn (hr31_135_5 (fun _ => h m hB hf) (fun c => absurd c (by decide)) (fun c => absurd c (by decide)))) (fun y hy ih => ?_) 0 (Nat.zero_le _)
  · exact hx_pick [1, 2] (hx_dn (hr31_135_0 (hl m hB hf)))
  · intro m hB hf
    obtain ⟨ok, g1, g2⟩ := gL_ok (W := W) hs y (by omega)
    have ih : ∀ m, sBk 31 (gS W (gL W s y).1 y) m → cDf 31 m0 m → hxn xs n yp_m135 5 [(1, .inr (.inl 31)), (2, .inr (.inl 44)), (3, .inl ((gL W s y).2 + gF W (gL W s y).1 y)), (4, .inl ((y + 1 : Nat) : Int))] [] m Q := ih
    generalize (gL W s y).1 = t at ok ih hB
    generalize (gL W s y).2 = f at g1 g2 ih
    have hv := gV_b (W := W) ok hy
    have ho := ok.own y hy
    have hd := ok.due y hy
    have hle := ok.lent y hy
    have hb := lClip_b (high := 99) (by decide) (W (env1 t y (t (240 + y)) (t (320 + y))) 105)
    have iff := cPw31_iff ok hB hy
    refine hx_dn (hr31_135_5 (fun c => absurd c (by omega)) (fun _ c => ?_) (fun _ c => ?_))
    · obtain ⟨c1, c2⟩ := iff.mp c
      rw [Int.toNat_natCast, sB31_own hB y hy, sB31_lent hB y hy]
      refine cAm1 (.inr rfl) (by decide) (lawR_c (cDf_L31 hf) hL) ok hB hy (by omega) (fun m1 f1 => ?_)
      have hB1 := cLf_b (.inr rfl) f1 hB
      have hf1 := cDf_t hf (cDf_f f1)
      have e99 : lHi 105 = 99 := rfl
      rw [e99]
      have ev : (if gx_w (m1 41 y + lClip 99 (W (env1 t y (t (240 + y)) (t (320 + y))) 105)) < 99999 then gx_w (m1 41 y + lClip 99 (W (env1 t y (t (240 + y)) (t (320 + y))) 105)) else 99999) = gV W t y := by
        rw [sB31_due hB1 y hy, gx_w_id (by omega) (by omega)]
        rfl
      unfold gS gF at ih
      have cc : t (440 + y) = 1 ∧ 0 ≤ t (280 + y) := ⟨c1, c2⟩
      rw [if_pos cc, if_pos cc] at ih
      refine hx_dn (hr31_135_51 ?_)
      rw [Int.toNat_natCast, ev]
      have hB2 := sU_due (b := 31) (v := gV W t y) hy hB1
      have hf2 : cDf 31 m0 (gx_u m1 41 y (gV W t y)) := cDf_t hf1 (cDf_b (bFr_u (by decide)))
      have hB2 : sBk 31 (su t (360 + y) (gV W t y)) (gx_u m1 41 y (gV W t y)) := hB2
      have e15 : gx_u m1 41 y (gV W t y) 41 y = gV W t y := gx_u_self
      generalize gx_u m1 41 y (gV W t y) = M at hB2 hf2 e15 ⊢
      refine hx_dn (hr31_135_75 (fun d => ?_) (fun d1 d2 => ?_) (fun d1 d2 => ?_))
      · have cn : ¬ (0 < t (320 + y) ∧ 2 * t (320 + y) ≤ gV W t y) := by omega
        rw [if_neg cn, if_neg cn, Int.add_zero] at ih
        rw [ew_u (by omega)]
        exact ih _ hB2 hf2
      · rw [Int.toNat_natCast, e15, gx_w_id (by omega) (by omega)] at d2
        have cn : ¬ (0 < t (320 + y) ∧ 2 * t (320 + y) ≤ gV W t y) := by omega
        rw [if_neg cn, if_neg cn, Int.add_zero] at ih
        rw [ew_u (by omega)]
        exact ih _ hB2 hf2
      · rw [Int.toNat_natCast, e15, gx_w_id (by omega) (by omega)] at d2
        have cy : 0 < t (320 + y) ∧ 2 * t (320 + y) ≤ gV W t y := ⟨d1, d2⟩
        rw [if_pos cy, if_pos cy] at ih
        have ht2 : su t (360 + y) (gV W t y) (440 + y) = 1 := by rw [su_ne (by omega)]; exact c1
        have eh : su t (360 + y) (gV W t y) (280 + y) = t (280 + y) := su_ne (by omega)
        rw [Int.toNat_natCast, sB31_hold hB2 y hy ht2, eh]
        refine cd31_16 (s := su t (360 + y) (gV W t y)) hy (by rw [su_ne (by omega)]; exact ok.many y hy) hB2 ht2 (fun m2 h2 f2 => ?_)
        refine hx_dn (hr31_135_107 ?_)
        rw [ew_u (by omega), gx_w_id (by omega) (by omega)]
        exact ih m2 h2 (cDf_t hf2 (cDf_b f2))
    · rw [ew_u (by omega)]
      unfold gS gF at ih
      have cn : ¬ (t (440 + y) = 1 ∧ 0 ≤ t (280 + y)) := fun q => c (iff.mpr q)
      rw [if_neg cn, if_neg cn, Int.add_zero] at ih
      exact ih m hB hf
theorem c31_136 (hL : lawR xs W m0) (hs : sOK s) (hB : sBk 31 s m) (hf : cDf 31 m0 m) (h : ∀ m', sBk 31 (fL W s 8) m' → cDf 31 m0 m' → Q none m') : hxn xs n yp_m136 0 [(0, .inr (.inl 69)), (1, .inr (.inl 31)), (2, .inr (.inl 44))] [] m Q := by
  have hl := hloop (N := 8) (P := fun p => ∀ m : gx_M, sBk 31 (fL W s p) m → cDf 31 m0 m → hxn xs n yp_m136 2 [(1, .inr (.inl 31)), (2, .inr (.inl 44)), (3, .inl (p : Int))] [] m Q) (fun m hB hf => hx_dn (hr31_136_2 (fun _ => h m hB hf) (fun c => absurd c (by decide)) (fun c => absurd c (by decide)))) (fun p hp ih => ?_) 0 (Nat.zero_le _)
  · exact hx_pick [1, 2] (hx_dn (hr31_136_0 (hl m hB hf)))
  · intro m hB hf
    have ok := fL_ok (W := W) hs p (by omega)
    have ih : ∀ m, sBk 31 (fS W (fL W s p) p) m → cDf 31 m0 m → hxn xs n yp_m136 2 [(1, .inr (.inl 31)), (2, .inr (.inl 44)), (3, .inl ((p + 1 : Nat) : Int))] [] m Q := ih
    generalize fL W s p = t at ok ih hB
    have hx := fX_ok ok
    have hlot := ok.2.2.2.2
    have lb := lcg_b (t 1130)
    unfold fS at ih
    refine hx_dn (hr31_136_2 (fun c => absurd c (by omega)) (fun _ c => ?_) (fun _ c => ?_))
    · have cp := (aPb (by omega)).mp ((cP_iff hB).mp c)
      rw [if_pos cp] at ih
      rw [sB31_lot hB, lcg_c hlot, t10 lb.1]
      have hB1 : sBk 31 (fX t) (gx_u m 31 4 (lcg (t 1130))) := sU_lot (b := 31) hB
      have hf1 : cDf 31 m0 (gx_u m 31 4 (lcg (t 1130))) := cDf_t hf (cDf_b (bFr_u (by decide)))
      refine cAm0 (.inr rfl) (by decide) (lawR_c (cDf_L31 hf1) hL) hx hB1 (by omega) (fun m1 f1 => ?_)
      have hB2 := cLf_b (.inr rfl) f1 hB1
      have hf2 := cDf_t hf1 (cDf_f f1)
      have e10 : lHi 102 = 10 := rfl
      rw [e10]
      refine hx_dn (hr31_136_55 (fun d => ?_) (fun d => ?_))
      · rw [if_neg (by omega)] at ih
        rw [ew_u (by omega)]
        exact ih m1 hB2 hf2
      · rw [if_pos d] at ih
        refine cAm0 (.inr rfl) (by decide) (lawR_c (cDf_L31 hf2) hL) hx hB2 (by omega) (fun m2 f2 => ?_)
        have hB3 := cLf_b (.inr rfl) f2 hB2
        have hf3 := cDf_t hf2 (cDf_f f2)
        have e999 : lHi 103 = 999 := rfl
        rw [e999]
        have hb := lClip_b (high := 999) (by decide) (W (env0 (fX t) (p : Int)) 103)
        refine hx_dn (hr31_136_70 ?_)
        refine cd31_69 (s := fX t) ((aPers_su (by decide)).mpr ((cP_iff hB).mp c)) (hx.coin p hp) (by omega) hB3 (fun m3 h3 f3 => ?_)
        have et : fX t (1120 + p) = t (1120 + p) := su_ne (by omega)
        rw [et] at h3
        refine hx_dn (hr31_136_73 ?_)
        rw [ew_u (by omega)]
        exact ih m3 h3 (cDf_t hf3 (cDf_b f3))
    · have cp : ¬ gx_and (gx_shr (t 1128) (p : Int)) 1 = 1 := fun q => c ((cP_iff hB).mpr ((aPb hp).mpr q))
      rw [if_neg cp] at ih
      rw [ew_u (by omega)]
      exact ih m hB hf
theorem c31_134 {N : Nat} (hN : N ≤ 100) (hL : lawR xs W m) (hs : sOK s) (hB : sBk 31 s m) (h : ∀ m', sBk 31 (dN W s N).1 m' → cDf 31 m m' → Q (some (.inl (dN W s N).2)) m') : hxn xs n yp_m134 0 [(0, .inr (.inl 69)), (1, .inr (.inl 31)), (2, .inr (.inl 44)), (3, .inl (N : Int))] [] m Q := by
  have hl := hloop (N := N) (P := fun k => ∀ m1 : gx_M, sBk 31 (dN W s k).1 m1 → cDf 31 m m1 → hxn xs n yp_m134 6 [(0, .inr (.inl 69)), (1, .inr (.inl 31)), (2, .inr (.inl 44)), (3, .inl (N : Int)), (4, .inl (dN W s k).2), (5, .inl (k : Int))] [] m1 Q) (fun m1 hB hf => hx_dn (hr31_134_6 (fun _ => h m1 hB hf) (fun c => absurd c (by omega)))) (fun k hk ih => ?_) 0 (Nat.zero_le _)
  · exact hx_dn (hr31_134_0 (hl m hB (fun _ _ _ _ _ => rfl)))
  · intro m1 hB hf
    obtain ⟨ok, g1, g2⟩ := dN_ok (W := W) hs k (by omega)
    have ih : ∀ m1, sBk 31 (dS W (dN W s k).1) m1 → cDf 31 m m1 → hxn xs n yp_m134 6 [(0, .inr (.inl 69)), (1, .inr (.inl 31)), (2, .inr (.inl 44)), (3, .inl (N : Int)), (4, .inl ((dN W s k).2 + (gL W (dN W s k).1 40).2)), (5, .inl ((k + 1 : Nat) : Int))] [] m1 Q := ih
    generalize (dN W s k).1 = t at ok ih hB
    generalize (dN W s k).2 = f at g1 g2 ih
    obtain ⟨ok2, j2, j3⟩ := gL_ok (W := W) ok 40 (Nat.le_refl _)
    refine hx_dn (hr31_134_6 (fun c => absurd c (by omega)) (fun _ => ?_))
    refine c31_135 hL ok hB hf (fun m2 h2 f2 => ?_)
    refine hx_dn (hr31_134_20 ?_)
    rw [gx_w_id (by omega) (by omega)]
    refine c31_136 hL ok2 h2 f2 (fun m3 h3 f3 => ?_)
    refine hx_dn (hr31_134_29 ?_)
    rw [ew_u (by omega), sB31_day h3]
    exact ih _ (sU_day (b := 31) h3) (cDf_t f3 (cDf_b (bFr_u (by decide))))
end DY31
/-! the reference -/
section DYR
variable {xs : List Int32} {n : Nat} {Q : hQ} {m m0 : gx_M} {W : (Int → Int) → Int → Option Int}
def rGf (m m' : gx_M) : Prop := (∀ c, c ≠ 86 → c ≠ 87 → c ≠ 102 → c ≠ 103 → m' c = m c) ∧ ∀ k, k ≠ 45 → m' 86 k = m 86 k
theorem rGf_r : rGf m m := ⟨fun _ _ _ _ _ => rfl, fun _ _ => rfl⟩
theorem rGf_t {m m1 m2 : gx_M} (h : rGf m m1) (h' : rGf m1 m2) : rGf m m2 := ⟨fun c a b d e => (h'.1 c a b d e).trans (h.1 c a b d e), fun k a => (h'.2 k a).trans (h.2 k a)⟩
theorem rGf_d {m m' : gx_M} (h : rDf m m') : rGf m m' := ⟨fun c _ b d e => h c b d e, fun k _ => congrFun (h 86 (by decide) (by decide) (by decide)) k⟩
theorem rGf_L {m m' : gx_M} (h : rGf m m') : hAg hPL m m' := by
  intro q hq k h1 h2
  simp only [hPL, List.mem_cons, List.not_mem_nil, or_false] at hq
  rcases hq with rfl | rfl | rfl | rfl | rfl | rfl | rfl | rfl | rfl | rfl | rfl | rfl | rfl <;> first | exact congrFun (h.1 _ (by decide) (by decide) (by decide) (by decide)) k | exact h.2 k (by dsimp only at h1 h2; omega)
theorem aPw_iff {s : Nat → Int} {Y : Nat} (hY : Y < 40) : aPw s (Y : Int) ↔ 0 ≤ s (280 + Y) := by
  unfold aPw
  rw [w280 hY]
theorem r260 {y : Nat} (hL : lawR xs W m) (hs : sOK (m 87)) (hy : y < 40) (ht : m 87 (440 + y) = 1) (hh : 0 ≤ m 87 (280 + y)) (hc : 0 ≤ m 86 45 ∧ m 86 45 ≤ 100000) (h : ∀ m', m' 87 = gS W (m 87) y → m' 86 45 = m 86 45 + gF W (m 87) y → rGf m m' → Q none m') : hxn xs n yp_m260 0 [(0, .inr (.inl 86)), (1, .inl (y : Int))] [] m Q := by
  have ho := hs.own y hy
  have hd := hs.due y hy
  have hle := hs.lent y hy
  have hb := lClip_b (high := 99) (by decide) (W (env1 (m 87) y (m 87 (240 + y)) (m 87 (320 + y))) 105)
  have hv := gV_b (W := W) hs hy
  have hho := hs.hold y hy
  unfold gS gF at h
  have cc : m 87 (440 + y) = 1 ∧ 0 ≤ m 87 (280 + y) := ⟨ht, hh⟩
  rw [if_pos cc, if_pos cc] at h
  refine hx_dn (hr260_0 ?_)
  rw [w240 hy, w320 hy]
  refine hs202 hy (by omega) hs.there hs.skl hs.met (fun m1 g1 g2 => ?_)
  have f1 : rLf m m1 := fun c _ h2 => g1 c h2
  refine hx_dn (hr260_25 ?_)
  refine rBy (by decide) (by decide) (lawR_c (rLf_L f1) hL) (rEnv1 g2) (fun m2 h2 => ?_)
  have e87 : m1 87 = m 87 := g1 87 (by decide)
  have e87' : m2 87 = m 87 := (h2 87 (by decide)).trans e87
  have f2 : rDf m m2 := fun c _ b d => (h2 c b).trans (g1 c d)
  have e86 : m2 86 = m 86 := f2 86 (by decide) (by decide) (by decide)
  refine hx_dn (hr260_54 ?_)
  rw [e87, w360 hy, gx_w_id (x := m 87 (360 + y) + _) (by omega) (by omega)]
  have fin : hxn xs n yp_m260 58 [(0, .inr (.inl 86)), (1, .inl (y : Int))] [.inl (gV W (m 87) y), .inl (gx_w (360 + (y : Int))), .inr (.inl 87)] m2 Q := by
    have ex : gx_u m2 87 (360 + y) (gV W (m 87) y) 87 = su (m 87) (360 + y) (gV W (m 87) y) := by
      rw [gx_su, e87']
    have l1 : gx_u m2 87 (360 + y) (gV W (m 87) y) 87 (320 + y) = m 87 (320 + y) := by
      rw [gx_u_ne (by omega), e87']
    have l2 : gx_u m2 87 (360 + y) (gV W (m 87) y) 87 (360 + y) = gV W (m 87) y := gx_u_self
    have l3 : gx_u m2 87 (360 + y) (gV W (m 87) y) 87 (280 + y) = m 87 (280 + y) := by
      rw [gx_u_ne (by omega), e87']
    have l4 : gx_u m2 87 (360 + y) (gV W (m 87) y) 86 45 = m 86 45 := by
      rw [gx_u_ne (by omega), e86]
    have fM : rDf m (gx_u m2 87 (360 + y) (gV W (m 87) y)) := rDf_t f2 rDf_u
    refine hx_dn (hr260_58 (fun c => ?_) (fun c1 c2 => ?_) (fun c1 c2 => ?_))
    · rw [w360 hy, w320 hy, l1] at c
      have cn : ¬ (0 < m 87 (320 + y) ∧ 2 * m 87 (320 + y) ≤ gV W (m 87) y) := by omega
      rw [if_neg cn, if_neg cn, Int.add_zero] at h
      rw [w360 hy]
      exact h _ ex l4 (rGf_d fM)
    · rw [w360 hy, w320 hy, l1] at c1
      rw [w360 hy, w320 hy, l1, l2, gx_w_id (by omega) (by omega)] at c2
      have cy : 0 < m 87 (320 + y) ∧ 2 * m 87 (320 + y) ≤ gV W (m 87) y := ⟨by omega, c2⟩
      rw [if_pos cy, if_pos cy] at h
      rw [w360 hy, w280 hy, l3]
      refine r210 hy (by rw [ex, su_ne (by omega)]; exact hs.many y hy) (fun m3 h3 f3 => ?_)
      rw [ex] at h3
      have e45 : m3 86 45 = m 86 45 := by rw [f3 86 (by decide) (by decide) (by decide)]; exact l4
      refine hx_dn (hr260_113 ?_)
      refine h _ ?_ ?_ (rGf_t (rGf_t (rGf_d fM) (rGf_d f3)) ⟨fun c a _ _ _ => gx_u_off a, fun k a => gx_u_ne (by omega)⟩)
      · rw [gx_u_off (by decide)]
        exact h3
      · rw [gx_u_self, e45, gx_w_id (by omega) (by omega)]
    · rw [w360 hy, w320 hy, l1] at c1
      rw [w360 hy, w320 hy, l1, l2, gx_w_id (by omega) (by omega)] at c2
      have cn : ¬ (0 < m 87 (320 + y) ∧ 2 * m 87 (320 + y) ≤ gV W (m 87) y) := by omega
      rw [if_neg cn, if_neg cn, Int.add_zero] at h
      rw [w360 hy]
      exact h _ ex l4 (rGf_d fM)
  unfold gV cl99 at fin
  refine hx_dn (hr199_0 (fun c => ?_) (fun c => ?_))
  · by_cases e : m 87 (360 + y) + lClip 99 (W (env1 (m 87) y (m 87 (240 + y)) (m 87 (320 + y))) 105) < 99999
    · rw [if_pos e] at fin
      exact fin
    · rw [if_neg e] at fin
      have e2 : m 87 (360 + y) + lClip 99 (W (env1 (m 87) y (m 87 (240 + y)) (m 87 (320 + y))) 105) = 99999 := by omega
      rw [e2]
      exact fin
  · rw [if_neg (by omega)] at fin
    exact fin
theorem r259 (hL : lawR xs W m) (hs : sOK (m 87)) (hc : 0 ≤ m 86 45 ∧ m 86 45 ≤ 99000) (h : ∀ m', m' 87 = dS W (m 87) → m' 86 45 = m 86 45 + (gL W (m 87) 40).2 → rGf m m' → Q none m') : hxn xs n yp_m259 0 [(0, .inr (.inl 86))] [] m Q := by
  obtain ⟨ok40, -, -⟩ := gL_ok (W := W) hs 40 (Nat.le_refl _)
  have hl2 := hloop (N := 8) (P := fun p => ∀ m1 : gx_M, m1 87 = fL W (gL W (m 87) 40).1 p → m1 86 45 = m 86 45 + (gL W (m 87) 40).2 → rGf m m1 → hxn xs n yp_m259 37 [(0, .inr (.inl 86)), (1, .inl (p : Int))] [] m1 Q) (fun m1 e1 e2 f1 => hx_dn (hr259_37 (fun _ => h _ (by rw [gx_su, e1]; rfl) (by rw [gx_u_ne (by decide)]; exact e2) (rGf_t f1 (rGf_d rDf_u))) (fun c => absurd c (by decide)) (fun c => absurd c (by decide)))) (fun p hp ih => ?_) 0 (Nat.zero_le _)
  · have hl := hloop (N := 40) (P := fun y => ∀ m1 : gx_M, m1 87 = (gL W (m 87) y).1 → m1 86 45 = m 86 45 + (gL W (m 87) y).2 → rGf m m1 → hxn xs n yp_m259 2 [(0, .inr (.inl 86)), (1, .inl (y : Int))] [] m1 Q) (fun m1 e1 e2 f1 => hx_dn (hr259_2 (fun _ => hl2 m1 e1 e2 f1) (fun c => absurd c (by decide)) (fun c => absurd c (by decide)) (fun c => absurd c (by decide)))) (fun y hy ih => ?_) 0 (Nat.zero_le _)
    · exact hx_dn (hr259_0 (hl m rfl (Int.add_zero _).symm rGf_r))
    · intro m1 e1 e2 f1
      obtain ⟨ok, g1, g2⟩ := gL_ok (W := W) hs y (by omega)
      have ih : ∀ m1 : gx_M, m1 87 = gS W (gL W (m 87) y).1 y → m1 86 45 = m 86 45 + ((gL W (m 87) y).2 + gF W (gL W (m 87) y).1 y) → rGf m m1 → hxn xs n yp_m259 2 [(0, .inr (.inl 86)), (1, .inl ((y + 1 : Nat) : Int))] [] m1 Q := ih
      generalize (gL W (m 87) y).1 = t at ok ih e1
      generalize (gL W (m 87) y).2 = f at g1 g2 ih e2
      have no : ¬ (t (440 + y) = 1 ∧ 0 ≤ t (280 + y)) → hxn xs n yp_m259 2 [(0, .inr (.inl 86)), (1, .inl (gx_w ((y : Int) + 1)))] [] m1 Q := fun c => by
        rw [ew_u (by omega)]
        unfold gS gF at ih
        rw [if_neg c, if_neg c, Int.add_zero] at ih
        exact ih m1 e1 e2 f1
      refine hx_dn (hr259_2 (fun c => absurd c (by omega)) (fun _ c1 c2 => ?_) (fun _ _ c => no ?_) (fun _ c => no ?_))
      · have c1 := (aYr_iff hy).mp c1
        have c2 := (aPw_iff hy).mp c2
        refine r260 (lawR_c (rGf_L f1) hL) (by rw [e1]; exact ok) hy c1 c2 (by omega) (fun m2 h1 h2 h3 => ?_)
        refine hx_dn (hr259_29 ?_)
        rw [ew_u (by omega)]
        rw [e1] at h1 h2
        exact ih m2 h1 (by rw [h2, e2]; omega) (rGf_t f1 h3)
      · rw [e1] at c
        exact fun q => c ((aPw_iff hy).mpr q.2)
      · rw [e1] at c
        exact fun q => c ((aYr_iff hy).mpr q.1)
  · intro m1 e1 e2 f1
    have ok := fL_ok (W := W) ok40 p (by omega)
    have ih : ∀ m1 : gx_M, m1 87 = fS W (fL W (gL W (m 87) 40).1 p) p → m1 86 45 = m 86 45 + (gL W (m 87) 40).2 → rGf m m1 → hxn xs n yp_m259 37 [(0, .inr (.inl 86)), (1, .inl ((p + 1 : Nat) : Int))] [] m1 Q := ih
    generalize fL W (gL W (m 87) 40).1 p = t at ok ih e1
    have hx := fX_ok ok
    have lb := lcg_b (t 1130)
    unfold fS at ih
    refine hx_dn (hr259_37 (fun c => absurd c (by omega)) (fun _ c => ?_) (fun _ c => ?_))
    · rw [e1] at c
      have cp := (aPb (by omega)).mp c
      rw [if_pos cp] at ih
      rw [e1, lcg_r ok.2.2.2.2]
      have ex : gx_u m1 87 1130 (lcg (t 1130)) 87 = fX t := by rw [gx_su, e1]; rfl
      refine hs203z (by omega) (by rw [ex]; exact hx.there) (fun m2 g1 g2 => ?_)
      have e87 : m2 87 = fX t := (g1 87 (by decide)).trans ex
      rw [ex] at g2
      have f2 : rDf m1 m2 := rDf_t rDf_u (fun c _ _ d => g1 c d)
      have hE := rEnv0 g2
      refine hx_dn (hr259_87 ?_)
      have hL2 : lawR xs W m2 := lawR_c (rDf_L f2) (lawR_c (rGf_L f1) hL)
      refine rBy (by decide) (by decide) hL2 hE (fun m3 h3 => ?_)
      have e87' : m3 87 = fX t := (h3 87 (by decide)).trans e87
      have f3 : rDf m1 m3 := rDf_t f2 (fun c _ b _ => h3 c b)
      have elot : m2 87 1130 = lcg (t 1130) := by rw [e87]; exact su_self
      rw [elot, t10 lb.1]
      refine hx_dn (hr259_106 (fun d => ?_) (fun d => ?_))
      · rw [if_neg (by omega)] at ih
        rw [ew_u (by omega)]
        exact ih m3 e87' (by rw [f3 86 (by decide) (by decide) (by decide)]; exact e2) (rGf_t f1 (rGf_d f3))
      · rw [if_pos d] at ih
        refine rBy (env := env0 (fX t) (p : Int)) (by decide) (by decide) (lawR_c (rDf_L (fun c _ b _ => h3 c b)) hL2) (fun c hc => by rw [h3 103 (by decide)]; exact hE c hc) (fun m4 h4 => ?_)
        have e87'' : m4 87 = fX t := (h4 87 (by decide)).trans e87'
        have f4 : rDf m1 m4 := rDf_t f3 (fun c _ b _ => h4 c b)
        have hb := lClip_b (high := 999) (by decide) (W (env0 (fX t) (p : Int)) 103)
        have et : fX t (1120 + p) = t (1120 + p) := su_ne (by omega)
        refine hx_dn (hr259_129 ?_)
        refine r198 hp (by rw [e87'']; exact hx.coin p hp) (by omega) ?_
        rw [e87'', et]
        refine hx_dn (hr259_132 ?_)
        rw [w1120 hp, ew_u (by omega)]
        refine ih _ (by rw [gx_su, e87'']) ?_ (rGf_t f1 (rGf_d (rDf_t f4 rDf_u)))
        rw [gx_u_ne (by omega), f4 86 (by decide) (by decide) (by decide)]
        exact e2
    · rw [e1] at c
      rw [if_neg (fun q => c ((aPb hp).mpr q))] at ih
      rw [ew_u (by omega)]
      exact ih m1 e1 e2 f1
theorem r258 {N : Nat} (hN : N ≤ 100) (hL : lawR xs W m) (hs : sOK (m 87)) (h : ∀ m', m' 87 = (dN W (m 87) N).1 → m' 86 45 = (dN W (m 87) N).2 → rGf m m' → Q none m') : hxn xs n yp_m258 0 [(0, .inr (.inl 86)), (1, .inl (N : Int))] [] m Q := by
  have hl := hloop (N := N) (P := fun k => ∀ m1 : gx_M, m1 87 = (dN W (m 87) k).1 → m1 86 45 = (dN W (m 87) k).2 → rGf m m1 → hxn xs n yp_m258 7 [(0, .inr (.inl 86)), (1, .inl (N : Int)), (2, .inl (k : Int))] [] m1 Q) (fun m1 e1 e2 f1 => hx_dn (hr258_7 (fun _ => h m1 e1 e2 f1) (fun c => absurd c (by omega)))) (fun k hk ih => ?_) 0 (Nat.zero_le _)
  · refine hx_dn (hr258_0 (hl _ ?_ gx_u_self ⟨fun c a _ _ _ => gx_u_off a, fun k a => gx_u_ne (by omega)⟩))
    rw [gx_u_off (by decide)]
    rfl
  · intro m1 e1 e2 f1
    obtain ⟨ok, g1, g2⟩ := dN_ok (W := W) hs k (by omega)
    refine hx_dn (hr258_7 (fun c => absurd c (by omega)) (fun _ => ?_))
    refine r259 (lawR_c (rGf_L f1) hL) (by rw [e1]; exact ok) (by omega) (fun m2 h1 h2 h3 => ?_)
    refine hx_dn (hr258_16 ?_)
    rw [ew_u (by omega)]
    rw [e1] at h1 h2
    exact ih m2 h1 (by rw [h2, e2]; rfl) (rGf_t f1 h3)
end DYR
