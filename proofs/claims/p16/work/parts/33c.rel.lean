/-! what stands still between tellings: persons, years there, dates, livers, skills, met, deeds, marks; kept ones, too -/
def hSt (b a : Nat) (m : gx_M) : Prop :=
  m b 0 = m a 1128 ∧ m b 1 = ((hmask (fun y => decide (m a (440 + y) = 1)) 40 : Nat) : Int) ∧ m b 2 = ((hmask (fun y => decide (m a (160 + y) = 1)) 40 : Nat) : Int) ∧
  (∀ j y, 2 ≤ j → j ≤ 6 → y < 40 → m (b + j) y = m a ((if j = 6 then 200 else 40 * (j - 2)) + y)) ∧
  ∀ y, y < 40 → (m a (440 + y) = 0 ∨ m a (440 + y) = 1) ∧ (m a (160 + y) = 0 ∨ m a (160 + y) = 1)
theorem hSt_mv {b a b' a' : Nat} {m m' : gx_M} (h : hSt b a m) (e0 : m' b' 0 = m' a' 1128) (e1 : m' b' 1 = m b 1) (e2 : m' b' 2 = m b 2) (e3 : ∀ j y, 2 ≤ j → j ≤ 6 → y < 40 → m' (b' + j) y = m (b + j) y) (e4 : ∀ k, k < 240 ∨ (440 ≤ k ∧ k < 480) → m' a' k = m a k) : hSt b' a' m' := by
  obtain ⟨h0, h1, h2, h3, h4⟩ := h
  refine ⟨e0, ?_, ?_, fun j y hj1 hj2 hy => ?_, fun y hy => ?_⟩
  · rw [e1, h1]
    refine congrArg (fun x : Nat => (x : Int)) (hmask_ext 40 (fun j hj => ?_))
    show decide (m a (440 + j) = 1) = decide (m' a' (440 + j) = 1)
    rw [e4 (440 + j) (by omega)]
  · rw [e2, h2]
    refine congrArg (fun x : Nat => (x : Int)) (hmask_ext 40 (fun j hj => ?_))
    show decide (m a (160 + j) = 1) = decide (m' a' (160 + j) = 1)
    rw [e4 (160 + j) (by omega)]
  · rw [e3 j y hj1 hj2 hy, h3 j y hj1 hj2 hy, e4 _ (by left; split <;> omega)]
  · rw [e4 (440 + y) (by omega), e4 (160 + y) (by omega)]
    exact h4 y hy
def hRS (m : gx_M) : Prop := hSt 5 87 m ∧ m 0 12 = m 86 47 ∧ (m 86 47 ≠ 0 → hSt 18 89 m)
def hPS : List (Nat × Nat × Nat) := [(5, 0, 3), (7, 0, 40), (8, 0, 40), (9, 0, 40), (10, 0, 40), (11, 0, 40), (18, 0, 3), (20, 0, 40), (21, 0, 40), (22, 0, 40), (23, 0, 40), (24, 0, 40), (0, 12, 13), (86, 47, 48), (87, 0, 240), (87, 440, 480), (87, 1128, 1129), (89, 0, 240), (89, 440, 480), (89, 1128, 1129)]
def hAg (P : List (Nat × Nat × Nat)) (m m' : gx_M) : Prop := ∀ q ∈ P, ∀ k, q.2.1 ≤ k → k < q.2.2 → m' q.1 k = m q.1 k
theorem hAg.tr {P : List (Nat × Nat × Nat)} {m m1 m2 : gx_M} (h : hAg P m m1) (h' : hAg P m1 m2) : hAg P m m2 := fun q hq k h1 h2 => (h' q hq k h1 h2).trans (h q hq k h1 h2)
theorem hAg.at {P : List (Nat × Nat × Nat)} {m m' : gx_M} (h : hAg P m m') (c lo hi : Nat) (hm' : (c, lo, hi) ∈ P) {k : Nat} (h1 : lo ≤ k) (h2 : k < hi) : m' c k = m c k := h (c, lo, hi) hm' k h1 h2
theorem hRS_c {m m' : gx_M} (h : hAg hPS m m') (hR : hRS m) : hRS m' := by
  obtain ⟨h1, h2, h3⟩ := hR
  have f : m' 86 47 = m 86 47 := h.at 86 47 48 (by decide) (by omega) (by omega)
  have hj : ∀ j, 2 ≤ j → j ≤ 6 → (5 + j, 0, 40) ∈ hPS ∧ (18 + j, 0, 40) ∈ hPS := fun j a b => by
    have : j = 2 ∨ j = 3 ∨ j = 4 ∨ j = 5 ∨ j = 6 := by omega
    rcases this with rfl | rfl | rfl | rfl | rfl <;> decide
  refine ⟨hSt_mv h1 ?_ (h.at 5 0 3 (by decide) (by omega) (by omega)) (h.at 5 0 3 (by decide) (by omega) (by omega)) (fun j y a b hy => h.at (5 + j) 0 40 (hj j a b).1 (by omega) hy) (fun k hk => ?_), ?_, fun hn => ?_⟩
  · rw [h.at 5 0 3 (by decide) (by omega) (by omega), h.at 87 1128 1129 (by decide) (by omega) (by omega)]
    exact h1.1
  · rcases hk with hk | ⟨ha, hb⟩
    · exact h.at 87 0 240 (by decide) (by omega) hk
    · exact h.at 87 440 480 (by decide) ha hb
  · rw [f, h.at 0 12 13 (by decide) (by omega) (by omega)]
    exact h2
  · have h3 := h3 (by rw [← f]; exact hn)
    refine hSt_mv h3 ?_ (h.at 18 0 3 (by decide) (by omega) (by omega)) (h.at 18 0 3 (by decide) (by omega) (by omega)) (fun j y a b hy => h.at (18 + j) 0 40 (hj j a b).2 (by omega) hy) (fun k hk => ?_)
    · rw [h.at 18 0 3 (by decide) (by omega) (by omega), h.at 89 1128 1129 (by decide) (by omega) (by omega)]
      exact h3.1
    · rcases hk with hk | ⟨ha, hb⟩
      · exact h.at 89 0 240 (by decide) (by omega) hk
      · exact h.at 89 440 480 (by decide) ha hb
/-! bits of the persons, by both -/
theorem hb01 (x k : Int) : gx_and (gx_shr x k) 1 = 0 ∨ gx_and (gx_shr x k) 1 = 1 := by
  have := gx_and_bd (gx_shr x k) 1 (by decide)
  omega
theorem hPers_eq {b a : Nat} {m : gx_M} {p : Int} (h : m b 0 = m a 1128) : cPers b m p ↔ aPers (m a) p := by
  unfold cPers aPers
  rw [h]
  have := hb01 (m a 1128) p
  constructor
  · exact fun ⟨h1, h2, h3⟩ => ⟨h1, h2, by omega⟩
  · exact fun ⟨h1, h2, h3⟩ => ⟨h1, h2, by omega⟩
/-! a person -/
theorem hw_person {xs : List Int32} {n : Nat} {m : gx_M} {x1 x2 : Int} (hR : hRS m) : hxn xs n yp_m11 0 [(0, .inr (.inl 0)), (1, .inl x1), (2, .inl x2)] [] m (fun r1 m1 => ∃ v, r1 = some (.inl v) ∧ hxn xs n yp_m161 0 [(0, .inr (.inl 86)), (1, .inl x1), (2, .inl x2)] [] m1 (fun r2 m2 => r2 = some (.inl v) ∧ hRS m2)) := by
  have hno : (¬ (0 ≤ x1 ∧ x1 ≤ 7) ∨ ¬ (0 ≤ x2 ∧ x2 ≤ 99999)) → ∃ v, (some (.inl 0) : Option hV) = some (.inl v) ∧ hxn xs n yp_m161 0 [(0, .inr (.inl 86)), (1, .inl x1), (2, .inl x2)] [] m (fun r2 m2 => r2 = some (.inl v) ∧ hRS m2) := fun hn =>
    ⟨0, rfl, hx_dn (hr161_0 (fun a b => absurd hn (by omega)) (fun _ _ => ⟨rfl, hR⟩) (fun _ => ⟨rfl, hR⟩))⟩
  refine hx_dn (hr11_0 (fun _ => hno (by omega)) (fun _ _ => hno (by omega)) (fun _ _ _ => hno (by omega)) (fun a b c d => ?_) (fun _ _ _ _ => hno (by omega)))
  refine ⟨1, rfl, hx_dn (hr161_0 (fun _ _ => ⟨rfl, ?_⟩) (fun _ hn => absurd hn (by omega)) (fun hn => absurd hn (by omega)))⟩
  obtain ⟨h1, h2, h3⟩ := hR
  have hidx : (gx_w (1120 + x1)).toNat = 1120 + x1.toNat := by rw [gx_w_id (by omega) (by omega)]; omega
  rw [hidx]
  obtain ⟨M, hM⟩ : ∃ M, M = gx_u (gx_u (gx_u (gx_u m 5 0 (gx_or (m 5 0) (gx_shl 1 x1))) 6 x1.toNat x2) 87 1128 (gx_or (gx_u (gx_u m 5 0 (gx_or (m 5 0) (gx_shl 1 x1))) 6 x1.toNat x2 87 1128) (gx_shl 1 x1))) 87 (1120 + x1.toNat) x2 := ⟨_, rfl⟩
  rw [← hM]
  have rd : ∀ c k, ¬ (c = 5 ∧ k = 0) → ¬ (c = 6) → ¬ (c = 87 ∧ 1120 ≤ k) → M c k = m c k := fun c k a1 a2 a3 => by
    rw [hM, gx_u_ne (by omega), gx_u_ne (by omega), gx_u_ne (by omega), gx_u_ne (by omega)]
  refine ⟨hSt_mv h1 ?_ (rd _ _ (by omega) (by omega) (by omega)) (rd _ _ (by omega) (by omega) (by omega)) (fun j y a1 a2 a3 => rd _ _ (by omega) (by omega) (by omega)) (fun k hk => rd _ _ (by omega) (by omega) (by omega)), ?_, fun hn => ?_⟩
  · rw [hM, gx_u_ne (by omega), gx_u_ne (by omega), gx_u_ne (by omega), gx_u_self, gx_u_ne (by omega), gx_u_self, gx_u_ne (by omega), gx_u_ne (by omega), h1.1]
  · rw [rd _ _ (by omega) (by omega) (by omega), rd _ _ (by omega) (by omega) (by omega)]
    exact h2
  · rw [rd _ _ (by omega) (by omega) (by omega)] at hn
    have h3 := h3 hn
    exact hSt_mv h3 (by rw [rd _ _ (by omega) (by omega) (by omega), rd _ _ (by omega) (by omega) (by omega)]; exact h3.1) (rd _ _ (by omega) (by omega) (by omega)) (rd _ _ (by omega) (by omega) (by omega)) (fun j y a1 a2 a3 => rd _ _ (by omega) (by omega) (by omega)) (fun k hk => rd _ _ (by omega) (by omega) (by omega))
/-! a year -/
theorem hyr_ref {m : gx_M} {Y : Nat} (hY : Y < 40) {v1 v2 v3 v4 v5 v6 v7 v8 v9 v10 v11 v12 v13 : Int} {M : gx_M} (hM : M = gx_u (gx_u (gx_u (gx_u (gx_u (gx_u (gx_u (gx_u (gx_u (gx_u (gx_u (gx_u (gx_u m 87 (gx_w (440 + (Y : Int))).toNat v1) 87 (gx_w (0 + (Y : Int))).toNat v2) 87 (gx_w (40 + (Y : Int))).toNat v3) 87 (gx_w (80 + (Y : Int))).toNat v4) 87 (gx_w (120 + (Y : Int))).toNat v5) 87 (gx_w (160 + (Y : Int))).toNat v6) 87 (gx_w (200 + (Y : Int))).toNat v7) 87 (gx_w (240 + (Y : Int))).toNat v8) 87 (gx_w (280 + (Y : Int))).toNat v9) 87 (gx_w (320 + (Y : Int))).toNat v10) 87 (gx_w (360 + (Y : Int))).toNat v11) 87 (gx_w (400 + (Y : Int))).toNat v12) 87 (gx_w (480 + (gx_w (16 * (Y : Int))))).toNat v13) :
    (M 87 (440 + Y) = v1 ∧ M 87 Y = v2 ∧ M 87 (40 + Y) = v3 ∧ M 87 (80 + Y) = v4 ∧ M 87 (120 + Y) = v5 ∧ M 87 (160 + Y) = v6 ∧ M 87 (200 + Y) = v7 ∧ M 87 (240 + Y) = v8 ∧ M 87 (280 + Y) = v9 ∧ M 87 (320 + Y) = v10 ∧ M 87 (360 + Y) = v11 ∧ M 87 (400 + Y) = v12 ∧ M 87 (480 + 16 * Y) = v13) ∧ (∀ c k, ¬ (c = 87 ∧ (k < 480 ∧ k % 40 = Y ∨ k = 480 + 16 * Y)) → M c k = m c k) := by
  have w : ∀ z : Nat, z ≤ 2000 → (gx_w ((z : Int) + (Y : Int))).toNat = z + Y := fun z hz => by rw [gx_w_id (by omega) (by omega)]; omega
  have w48 : (gx_w (480 + (gx_w (16 * (Y : Int))))).toNat = 480 + 16 * Y := by rw [gx_w_id (x := 16 * (Y : Int)) (by omega) (by omega), gx_w_id (by omega) (by omega)]; omega
  have w0 := w 0 (by omega); have w4 := w 40 (by omega); have w8 := w 80 (by omega); have w12 := w 120 (by omega); have w16 := w 160 (by omega); have w20 := w 200 (by omega); have w24 := w 240 (by omega); have w28 := w 280 (by omega); have w32 := w 320 (by omega); have w36 := w 360 (by omega); have w40 := w 400 (by omega); have w44 := w 440 (by omega)
  have c0 : ((0 : Nat) : Int) = 0 := rfl
  have c4 : ((40 : Nat) : Int) = 40 := rfl
  have c8 : ((80 : Nat) : Int) = 80 := rfl
  have c12 : ((120 : Nat) : Int) = 120 := rfl
  have c16 : ((160 : Nat) : Int) = 160 := rfl
  have c20 : ((200 : Nat) : Int) = 200 := rfl
  have c24 : ((240 : Nat) : Int) = 240 := rfl
  have c28 : ((280 : Nat) : Int) = 280 := rfl
  have c32 : ((320 : Nat) : Int) = 320 := rfl
  have c36 : ((360 : Nat) : Int) = 360 := rfl
  have c40 : ((400 : Nat) : Int) = 400 := rfl
  have c44 : ((440 : Nat) : Int) = 440 := rfl
  rw [c0] at w0; rw [c4] at w4; rw [c8] at w8; rw [c12] at w12; rw [c16] at w16; rw [c20] at w20; rw [c24] at w24; rw [c28] at w28; rw [c32] at w32; rw [c36] at w36; rw [c40] at w40; rw [c44] at w44
  rw [w0, w4, w8, w12, w16, w20, w24, w28, w32, w36, w40, w44, w48] at hM
  clear w w0 w4 w8 w12 w16 w20 w24 w28 w32 w36 w40 w44 w48
  refine ⟨⟨?_, ?_, ?_, ?_, ?_, ?_, ?_, ?_, ?_, ?_, ?_, ?_, ?_⟩, fun c k hn => ?_⟩
  · rw [hM, gx_u_ne (by omega), gx_u_ne (by omega), gx_u_ne (by omega), gx_u_ne (by omega), gx_u_ne (by omega), gx_u_ne (by omega), gx_u_ne (by omega), gx_u_ne (by omega), gx_u_ne (by omega), gx_u_ne (by omega), gx_u_ne (by omega), gx_u_ne (by omega), gx_u_self]
  · have e : (0 + Y) = Y := by omega
    rw [hM, gx_u_ne (by omega), gx_u_ne (by omega), gx_u_ne (by omega), gx_u_ne (by omega), gx_u_ne (by omega), gx_u_ne (by omega), gx_u_ne (by omega), gx_u_ne (by omega), gx_u_ne (by omega), gx_u_ne (by omega), gx_u_ne (by omega), e, gx_u_self]
  · rw [hM, gx_u_ne (by omega), gx_u_ne (by omega), gx_u_ne (by omega), gx_u_ne (by omega), gx_u_ne (by omega), gx_u_ne (by omega), gx_u_ne (by omega), gx_u_ne (by omega), gx_u_ne (by omega), gx_u_ne (by omega), gx_u_self]
  · rw [hM, gx_u_ne (by omega), gx_u_ne (by omega), gx_u_ne (by omega), gx_u_ne (by omega), gx_u_ne (by omega), gx_u_ne (by omega), gx_u_ne (by omega), gx_u_ne (by omega), gx_u_ne (by omega), gx_u_self]
  · rw [hM, gx_u_ne (by omega), gx_u_ne (by omega), gx_u_ne (by omega), gx_u_ne (by omega), gx_u_ne (by omega), gx_u_ne (by omega), gx_u_ne (by omega), gx_u_ne (by omega), gx_u_self]
  · rw [hM, gx_u_ne (by omega), gx_u_ne (by omega), gx_u_ne (by omega), gx_u_ne (by omega), gx_u_ne (by omega), gx_u_ne (by omega), gx_u_ne (by omega), gx_u_self]
  · rw [hM, gx_u_ne (by omega), gx_u_ne (by omega), gx_u_ne (by omega), gx_u_ne (by omega), gx_u_ne (by omega), gx_u_ne (by omega), gx_u_self]
  · rw [hM, gx_u_ne (by omega), gx_u_ne (by omega), gx_u_ne (by omega), gx_u_ne (by omega), gx_u_ne (by omega), gx_u_self]
  · rw [hM, gx_u_ne (by omega), gx_u_ne (by omega), gx_u_ne (by omega), gx_u_ne (by omega), gx_u_self]
  · rw [hM, gx_u_ne (by omega), gx_u_ne (by omega), gx_u_ne (by omega), gx_u_self]
  · rw [hM, gx_u_ne (by omega), gx_u_ne (by omega), gx_u_self]
  · rw [hM, gx_u_ne (by omega), gx_u_self]
  · rw [hM, gx_u_self]
  · rw [hM, gx_u_ne (by omega), gx_u_ne (by omega), gx_u_ne (by omega), gx_u_ne (by omega), gx_u_ne (by omega), gx_u_ne (by omega), gx_u_ne (by omega), gx_u_ne (by omega), gx_u_ne (by omega), gx_u_ne (by omega), gx_u_ne (by omega), gx_u_ne (by omega), gx_u_ne (by omega)]
def yrOK (s : Nat → Int) (x1 x2 x3 x4 x5 x7 : Int) : Prop := (0 ≤ x1 ∧ x1 ≤ 39) ∧ (0 ≤ x2 ∧ x2 ≤ 99) ∧ aPers s x3 ∧ (0 ≤ x4 ∧ x4 ≤ 4095) ∧ (0 ≤ x5 ∧ x5 ≤ 255) ∧ (¬ (gx_and (gx_shr x5 x3) 1 = 1)) ∧ (gx_and x5 (gx_xor (s 1128) (-1))) = 0 ∧ (0 ≤ x7 ∧ x7 ≤ 9)
def yrM (m : gx_M) (x1 x2 x3 x4 x5 x6 x7 : Int) : gx_M := gx_u (gx_u (gx_u (gx_u (gx_u (gx_u (gx_u (gx_u (gx_u (gx_u (gx_u (gx_u (gx_u m 87 (gx_w (440 + x1)).toNat 1) 87 (gx_w (0 + x1)).toNat x2) 87 (gx_w (40 + x1)).toNat x3) 87 (gx_w (80 + x1)).toNat x4) 87 (gx_w (120 + x1)).toNat x5) 87 (gx_w (160 + x1)).toNat x6) 87 (gx_w (200 + x1)).toNat x7) 87 (gx_w (240 + x1)).toNat x3) 87 (gx_w (280 + x1)).toNat (-2)) 87 (gx_w (320 + x1)).toNat 0) 87 (gx_w (360 + x1)).toNat 0) 87 (gx_w (400 + x1)).toNat 1) 87 (gx_w (480 + (gx_w (16 * x1)))).toNat x3
theorem hs163 {xs : List Int32} {n : Nat} {Q : hQ} {m : gx_M} {x1 x2 x3 x4 x5 x6 x7 : Int} (h1 : yrOK (m 87) x1 x2 x3 x4 x5 x7 → Q (some (.inl 1)) (yrM m x1 x2 x3 x4 x5 (if x6 = 0 then 0 else 1) x7)) (h0 : ¬ yrOK (m 87) x1 x2 x3 x4 x5 x7 → Q (some (.inl 0)) m) : hxn xs n yp_m163 0 [(0, .inr (.inl 86)), (1, .inl x1), (2, .inl x2), (3, .inl x3), (4, .inl x4), (5, .inl x5), (6, .inl x6), (7, .inl x7)] [] m Q := by
  refine hx_dn (hr163_0 (fun _ _ _ _ _ c => h0 (fun ok => ok.2.2.2.2.2.1 c)) (fun _ _ _ _ _ _ c => h0 (fun ok => c ok.2.2.2.2.2.2.1)) (fun a1 a2 a3 a4 a5 a6 a7 a8 a9 => ?_) (fun a1 a2 a3 a4 a5 a6 a7 a8 a9 => ?_) (fun _ _ _ _ _ _ _ c => h0 (fun ok => c ok.2.2.2.2.2.2.2)) (fun _ _ _ _ c => h0 (fun ok => c ok.2.2.2.2.1)) (fun _ _ _ c => h0 (fun ok => c ok.2.2.2.1)) (fun _ _ c => h0 (fun ok => c ok.2.2.1)) (fun _ c => h0 (fun ok => c ok.2.1)) (fun c => h0 (fun ok => c ok.1)))
  · have := h1 ⟨a1, a2, a3, a4, a5, a6, a7, a8⟩
    rw [if_pos a9] at this
    exact this
  · have := h1 ⟨a1, a2, a3, a4, a5, a6, a7, a8⟩
    rw [if_neg a9] at this
    exact this
/-- the memory behind the class's year -/
def yrC (m m1 : gx_M) (Y : Nat) (x2 x3 x4 x5 x6 x7 : Int) : Prop := hFr hFv (gx_u (gx_u (gx_u (gx_u (gx_u (gx_u (gx_u (gx_u m 7 Y x2) 9 Y x4) 10 Y x5) 11 Y x7) 5 1 (hlor (m 5 1) (hlshl 1 (Y : Int)))) 5 2 (if x6 = 0 then hland (m 5 2) (hlxor (hlshl 1 (Y : Int)) (-1)) else hlor (m 5 2) (hlshl 1 (Y : Int)))) 8 Y x3) 16 Y 0) m1
theorem hs12 {xs : List Int32} {n : Nat} {Q : hQ} {m : gx_M} {s : Nat → Int} (hs' : m 5 0 = s 1128) {x1 x2 x3 x4 x5 x6 x7 : Int} (h1 : ∀ (Y : Nat) (m1 : gx_M), x1 = Y → Y < 40 → yrOK s x1 x2 x3 x4 x5 x7 → yrC m m1 Y x2 x3 x4 x5 x6 x7 → Q (some (.inl 1)) m1) (h0 : ¬ yrOK s x1 x2 x3 x4 x5 x7 → Q (some (.inl 0)) m) : hxn xs n yp_m12 0 [(0, .inr (.inl 0)), (1, .inl x1), (2, .inl x2), (3, .inl x3), (4, .inl x4), (5, .inl x5), (6, .inl x6), (7, .inl x7)] [] m Q := by
  have hp : cPers 5 m x3 ↔ aPers s x3 := by
    unfold cPers aPers
    rw [hs']
    have := hb01 (s 1128) x3
    constructor
    · exact fun ⟨h1, h2, h3⟩ => ⟨h1, h2, by omega⟩
    · exact fun ⟨h1, h2, h3⟩ => ⟨h1, h2, by omega⟩
  have no : ∀ {P : Prop}, P → (yrOK s x1 x2 x3 x4 x5 x7 → ¬ P) → Q (some (.inl 0)) m := fun hP h => h0 (fun ok => h ok hP)
  refine hx_dn (hr12_0 (fun c => no c (fun ok => by have := ok.1; omega)) (fun _ c => no c (fun ok => by have := ok.1; omega)) (fun _ _ c => no c (fun ok => by have := ok.2.1; omega)) (fun _ _ _ c => no c (fun ok => by have := ok.2.1; omega)) (fun _ _ _ _ c => no c (fun ok => by have := ok.2.2.2.2.2.2.2; omega)) (fun _ _ _ _ _ _ c => no c (fun ok => by have := ok.2.2.2.1; omega)) (fun _ _ _ _ _ _ _ c => no c (fun ok => by have := ok.2.2.2.1; omega)) (fun a1 a2 a3 a4 a5 a6 a7 a8 a9 a10 a11 => ?_) (fun _ _ _ _ _ _ _ _ _ _ c => no c (fun ok => by
    have := ok.2.2.2.2.2.1
    have := hb01 x5 x3
    omega)) (fun _ _ _ _ _ _ _ _ _ c => no c (fun ok => by
    have h5 := ok.2.2.2.2.1
    have h7 := ok.2.2.2.2.2.2.1
    exact fun hn => hn ⟨h5.1, h5.2, by rw [hs']; exact h7⟩)) (fun _ _ _ _ _ _ _ _ c => no c (fun ok => fun hn => hn (hp.mpr ok.2.2.1))) (fun _ _ _ _ _ c => no c (fun ok => by have := ok.2.2.2.2.2.2.2; omega)))
  obtain ⟨Y, rfl⟩ : ∃ Y : Nat, x1 = Y := ⟨x1.toNat, by omega⟩
  have hY : Y < 40 := by omega
  have hok : yrOK s Y x2 x3 x4 x5 x7 := ⟨by omega, by omega, hp.mp a9, by omega, ⟨a10.1, a10.2.1⟩, by have := hb01 x5 x3; omega, by rw [← hs']; exact a10.2.2, by omega⟩
  have hend : ∀ m1, yrC m m1 Y x2 x3 x4 x5 x6 x7 → hxn xs n yp_m12 137 [] (hrs none ++ []) m1 Q := fun m1 hm1 => hx_dn (hr12_137 (h1 Y m1 rfl hY hok hm1))
  rw [Int.toNat_natCast]
  have rd : ∀ k, gx_u (gx_u (gx_u (gx_u m 7 Y x2) 9 Y x4) 10 Y x5) 11 Y x7 5 k = m 5 k := fun k => by rw [gx_u_ne (by omega), gx_u_ne (by omega), gx_u_ne (by omega), gx_u_ne (by omega)]
  refine hx_dn (hr15_0 (fun c => absurd c (by omega)) (fun _ _ c => ?_) (fun _ _ c => ?_) (fun _ c => absurd c (by omega)))
  · rw [Int.toNat_natCast, rd, rd]
    refine hF16v (m0 := _) hFr.rf (fun m1 g1 => ?_)
    show hxn xs n yp_m15 74 [] [] m1 _
    refine hx_dn (hr15_74 (hend m1 ?_))
    unfold yrC
    rw [if_pos c]
    exact g1
  · rw [Int.toNat_natCast, rd, rd]
    refine hF16v (m0 := _) hFr.rf (fun m1 g1 => ?_)
    show hxn xs n yp_m15 74 [] [] m1 _
    refine hx_dn (hr15_74 (hend m1 ?_))
    unfold yrC
    rw [if_neg c]
    exact g1
theorem hw_year {xs : List Int32} {n : Nat} {m : gx_M} {x1 x2 x3 x4 x5 x6 x7 : Int} (hR : hRS m) : hxn xs n yp_m12 0 [(0, .inr (.inl 0)), (1, .inl x1), (2, .inl x2), (3, .inl x3), (4, .inl x4), (5, .inl x5), (6, .inl x6), (7, .inl x7)] [] m (fun r1 m1 => ∃ v, r1 = some (.inl v) ∧ hxn xs n yp_m163 0 [(0, .inr (.inl 86)), (1, .inl x1), (2, .inl x2), (3, .inl x3), (4, .inl x4), (5, .inl x5), (6, .inl x6), (7, .inl x7)] [] m1 (fun r2 m2 => r2 = some (.inl v) ∧ hRS m2)) := by
  obtain ⟨h1, h2, h3⟩ := hR
  refine hs12 (s := m 87) h1.1 (fun Y m1 e hY hok hC => ?_) (fun hn => ⟨0, rfl, hs163 (fun ok => absurd ok hn) (fun _ => ⟨rfl, h1, h2, h3⟩)⟩)
  subst e
  obtain ⟨T, hT⟩ : ∃ T, T = gx_u (gx_u (gx_u (gx_u (gx_u (gx_u (gx_u (gx_u m 7 Y x2) 9 Y x4) 10 Y x5) 11 Y x7) 5 1 (hlor (m 5 1) (hlshl 1 (Y : Int)))) 5 2 (if x6 = 0 then hland (m 5 2) (hlxor (hlshl 1 (Y : Int)) (-1)) else hlor (m 5 2) (hlshl 1 (Y : Int)))) 8 Y x3) 16 Y 0 := ⟨_, rfl⟩
  have hC' : hFr hFv T m1 := by rw [hT]; exact hC
  have t1 : ∀ c k, c ∉ hFv → m1 c k = T c k := fun c k hc => congrFun (hC' c hc) k
  have Tne : ∀ c k, ¬ (c = 7 ∧ k = Y) → ¬ (c = 9 ∧ k = Y) → ¬ (c = 10 ∧ k = Y) → ¬ (c = 11 ∧ k = Y) → ¬ (c = 5 ∧ k = 1) → ¬ (c = 5 ∧ k = 2) → ¬ (c = 8 ∧ k = Y) → c ≠ 16 → T c k = m c k := fun c k a1 a2 a3 a4 a5 a6 a7 a8 => by
    rw [hT, gx_u_ne (by omega), gx_u_ne (by omega), gx_u_ne (by omega), gx_u_ne (by omega), gx_u_ne (by omega), gx_u_ne (by omega), gx_u_ne (by omega), gx_u_ne (by omega)]
  have e87 : ∀ k, m1 87 k = m 87 k := fun k => by rw [t1 87 k (by decide), Tne 87 k (by omega) (by omega) (by omega) (by omega) (by omega) (by omega) (by omega) (by omega)]
  have hok1 : yrOK (m1 87) Y x2 x3 x4 x5 x7 := by
    have : m1 87 = m 87 := funext e87
    rw [this]
    exact hok
  refine ⟨1, rfl, hs163 (fun _ => ⟨rfl, ?_⟩) (fun hn => absurd hok1 hn)⟩
  obtain ⟨M, hM⟩ : ∃ M, M = yrM m1 Y x2 x3 x4 x5 (if x6 = 0 then 0 else 1) x7 := ⟨_, rfl⟩
  rw [← hM]
  obtain ⟨⟨b1, b2, b3, b4, b5, b6, b7, -⟩, bn⟩ := hyr_ref hY hM
  have Mn : ∀ c k, c ≠ 87 → c ∉ hFv → M c k = T c k := fun c k hc hv => by rw [bn c k (by omega), t1 c k hv]
  have M87 : ∀ k, ¬ (k < 480 ∧ k % 40 = Y ∨ k = 480 + 16 * Y) → M 87 k = m 87 k := fun k hk => by rw [bn 87 k (by omega), e87]
  obtain ⟨c0, c1, c2, c3, c4⟩ := h1
  refine ⟨⟨?_, ?_, ?_, fun j y hj1 hj2 hy => ?_, fun y hy => ?_⟩, ?_, fun hn => ?_⟩
  · rw [Mn 5 0 (by decide) (by decide), Tne 5 0 (by omega) (by omega) (by omega) (by omega) (by omega) (by omega) (by omega) (by omega), M87 1128 (by omega)]
    exact c0
  · rw [Mn 5 1 (by decide) (by decide), hT, gx_u_ne (by omega), gx_u_ne (by omega), gx_u_ne (by omega), gx_u_self, c1, hmask_put hY]
    congr 1
    refine hmask_ext 40 (fun j hj => ?_)
    by_cases hjY : j = Y
    · subst hjY
      rw [b1]
      simp
    · rw [M87 (440 + j) (by omega), decide_eq_false hjY, Bool.or_false]
  · rw [Mn 5 2 (by decide) (by decide), hT, gx_u_ne (by omega), gx_u_ne (by omega), gx_u_self, c2]
    by_cases h6 : x6 = 0
    · rw [if_pos h6] at b6 ⊢
      rw [hmask_del hY]
      congr 1
      refine hmask_ext 40 (fun j hj => ?_)
      by_cases hjY : j = Y
      · subst hjY
        rw [b6]
        simp
      · rw [M87 (160 + j) (by omega), decide_eq_false hjY, Bool.not_false, Bool.and_true]
    · rw [if_neg h6] at b6 ⊢
      rw [hmask_put hY]
      congr 1
      refine hmask_ext 40 (fun j hj => ?_)
      by_cases hjY : j = Y
      · subst hjY
        rw [b6]
        simp
      · rw [M87 (160 + j) (by omega), decide_eq_false hjY, Bool.or_false]
  · have hj : j = 2 ∨ j = 3 ∨ j = 4 ∨ j = 5 ∨ j = 6 := by omega
    have c3' := c3 j y hj1 hj2 hy
    by_cases hyY : y = Y
    · subst hyY
      rcases hj with rfl | rfl | rfl | rfl | rfl
      · rw [Mn 7 y (by decide) (by decide), hT, gx_u_ne (by omega), gx_u_ne (by omega), gx_u_ne (by omega), gx_u_ne (by omega), gx_u_ne (by omega), gx_u_ne (by omega), gx_u_ne (by omega), gx_u_self]
        show x2 = M 87 (0 + y)
        rw [Nat.zero_add, b2]
      · rw [Mn 8 y (by decide) (by decide), hT, gx_u_ne (by omega), gx_u_self]
        exact b3.symm
      · rw [Mn 9 y (by decide) (by decide), hT, gx_u_ne (by omega), gx_u_ne (by omega), gx_u_ne (by omega), gx_u_ne (by omega), gx_u_ne (by omega), gx_u_ne (by omega), gx_u_self]
        exact b4.symm
      · rw [Mn 10 y (by decide) (by decide), hT, gx_u_ne (by omega), gx_u_ne (by omega), gx_u_ne (by omega), gx_u_ne (by omega), gx_u_ne (by omega), gx_u_self]
        exact b5.symm
      · rw [Mn 11 y (by decide) (by decide), hT, gx_u_ne (by omega), gx_u_ne (by omega), gx_u_ne (by omega), gx_u_ne (by omega), gx_u_self]
        exact b7.symm
    · have hc : 5 + j ≠ 87 := by omega
      have hv : 5 + j ∉ hFv := by
        simp only [hFv, List.mem_cons, List.not_mem_nil, or_false, not_or]
        omega
      rw [Mn (5 + j) y hc hv, Tne (5 + j) y (by omega) (by omega) (by omega) (by omega) (by omega) (by omega) (by omega) (by omega), M87 _ (by
        rcases hj with rfl | rfl | rfl | rfl | rfl
        · show ¬ (0 + y < 480 ∧ (0 + y) % 40 = Y ∨ 0 + y = 480 + 16 * Y); omega
        · show ¬ (40 + y < 480 ∧ (40 + y) % 40 = Y ∨ 40 + y = 480 + 16 * Y); omega
        · show ¬ (80 + y < 480 ∧ (80 + y) % 40 = Y ∨ 80 + y = 480 + 16 * Y); omega
        · show ¬ (120 + y < 480 ∧ (120 + y) % 40 = Y ∨ 120 + y = 480 + 16 * Y); omega
        · show ¬ (200 + y < 480 ∧ (200 + y) % 40 = Y ∨ 200 + y = 480 + 16 * Y); omega)]
      exact c3'
  · by_cases hyY : y = Y
    · subst hyY
      rw [b1, b6]
      refine ⟨.inr rfl, ?_⟩
      split
      · exact .inl rfl
      · exact .inr rfl
    · rw [M87 (440 + y) (by omega), M87 (160 + y) (by omega)]
      exact c4 y hy
  · rw [Mn 0 12 (by decide) (by decide), Mn 86 47 (by decide) (by decide), Tne 0 12 (by omega) (by omega) (by omega) (by omega) (by omega) (by omega) (by omega) (by omega), Tne 86 47 (by omega) (by omega) (by omega) (by omega) (by omega) (by omega) (by omega) (by omega)]
    exact h2
  · rw [Mn 86 47 (by decide) (by decide), Tne 86 47 (by omega) (by omega) (by omega) (by omega) (by omega) (by omega) (by omega) (by omega)] at hn
    have rest : ∀ c k, 18 ≤ c → c ≠ 87 → M c k = m c k := fun c k hc h87 => by
      have hv : c ∉ hFv := by
        simp only [hFv, List.mem_cons, List.not_mem_nil, or_false, not_or]
        omega
      rw [Mn c k h87 hv, Tne c k (by omega) (by omega) (by omega) (by omega) (by omega) (by omega) (by omega) (by omega)]
    exact hSt_mv (h3 hn) (by rw [rest 18 0 (by omega) (by omega), rest 89 1128 (by omega) (by omega)]; exact (h3 hn).1) (rest _ _ (by omega) (by omega)) (rest _ _ (by omega) (by omega)) (fun j y a1 a2 a3 => rest _ _ (by omega) (by omega)) (fun k hk => rest _ _ (by omega) (by omega))
/-! kept, put back -/
theorem hl270 {xs : List Int32} {n : Nat} {Q : hQ} {m : gx_M} (hT : ∀ y, y < 40 → m 87 (440 + y) = 0 ∨ m 87 (440 + y) = 1) (h : Q (some (.inl ((hcnt (fun y => decide (m 87 (440 + y) = 1)) 40 : Nat) : Int))) m) : ∀ d k : Nat, k + d = 40 → hxn xs n yp_m270 4 [(0, .inr (.inl 86)), (1, .inl ((hcnt (fun y => decide (m 87 (440 + y) = 1)) k : Nat) : Int)), (2, .inl (k : Int))] [] m Q := by
  intro d
  induction d with
  | zero =>
    intro k hk
    have e : k = 40 := by omega
    subst e
    have := hcnt_le (fun y => decide (m 87 (440 + y) = 1)) 40
    exact hx_dn (hr270_4 (by omega) (by omega) (fun _ => h) (fun c => absurd c (by omega)))
  | succ d ih =>
    intro k hk
    have hle := hcnt_le (fun y => decide (m 87 (440 + y) = 1)) k
    refine hx_dn (hr270_4 (by omega) (by omega) (fun c => absurd c (by omega)) (fun _ => ?_))
    have e1 : (440 + (k : Int)).toNat = 440 + k := by omega
    rw [e1]
    have e2 : gx_w (((hcnt (fun y => decide (m 87 (440 + y) = 1)) k : Nat) : Int) + m 87 (440 + k)) = ((hcnt (fun y => decide (m 87 (440 + y) = 1)) (k + 1) : Nat) : Int) := by
      rw [gx_w_id (by rcases hT k (by omega) with h | h <;> omega) (by rcases hT k (by omega) with h | h <;> omega)]
      show _ = ((hcnt (fun y => decide (m 87 (440 + y) = 1)) k + (if decide (m 87 (440 + k) = 1) = true then 1 else 0) : Nat) : Int)
      rcases hT k (by omega) with h | h <;> rw [h] <;> simp
    rw [e2]
    exact ih (k + 1) (by omega)
theorem hs270 {xs : List Int32} {n : Nat} {Q : hQ} {m : gx_M} (hT : ∀ y, y < 40 → m 87 (440 + y) = 0 ∨ m 87 (440 + y) = 1) (h : Q (some (.inl ((hcnt (fun y => decide (m 87 (440 + y) = 1)) 40 : Nat) : Int))) m) : hxn xs n yp_m270 0 [(0, .inr (.inl 86))] [] m Q :=
  hx_dn (hr270_0 (hl270 hT h 40 0 rfl))
theorem hw_keep {xs : List Int32} {n : Nat} {m : gx_M} (hR : hRS m) : hxn xs n yp_m154 0 [(0, .inr (.inl 0))] [] m (fun r1 m1 => ∃ v, r1 = some (.inl v) ∧ hxn xs n yp_m269 0 [(0, .inr (.inl 86))] [] m1 (fun r2 m2 => r2 = some (.inl v) ∧ hRS m2)) := by
  obtain ⟨h1, h2, h3⟩ := hR
  refine hx_dn (hr154_0 ?_)
  refine hs71_18_5 (fun m' hC => ?_)
  obtain ⟨k0, k1, k2, k3, k4, a1, a2, a3, a4, a5, a6, a7, a8, a9, a10, a11, a12, kn⟩ := hC
  show hxn xs n yp_m154 11 [(0, .inr (.inl 0))] [] m' _
  refine hx_dn (hr154_11 ?_)
  have e5 : ∀ k, m' 5 k = m 5 k := fun k => congrFun (kn 5 (by decide)) k
  have e87 : m' 87 = m 87 := kn 87 (by decide)
  rw [e5 1, h1.2.1]
  refine hs61 (hmask_lt _ 40) ?_
  rw [hpop_hmask]
  show hxn xs n yp_m154 26 [] [.inl _] _ _
  refine hx_dn (hr154_26 ⟨_, rfl, ?_⟩)
  obtain ⟨m1, hm1⟩ : ∃ m1, m1 = gx_u m' 0 12 1 := ⟨_, rfl⟩
  rw [← hm1]
  have f1 : ∀ c k, ¬ (c = 0 ∧ k = 12) → m1 c k = m' c k := fun c k hn => by rw [hm1, gx_u_ne hn]
  refine hx_dn (hr269_0 ?_)
  obtain ⟨M, hM⟩ : ∃ M, M = hcopy (gx_u m1 86 47 1) 87 0 89 0 1131 := ⟨_, rfl⟩
  rw [← hM]
  have g1 : ∀ c k, c ≠ 89 → ¬ (c = 86 ∧ k = 47) → ¬ (c = 0 ∧ k = 12) → M c k = m' c k := fun c k b1 b2 b3 => by rw [hM, hcopy_ne b1, gx_u_ne b2, f1 c k b3]
  have g87 : ∀ k, M 87 k = m 87 k := fun k => by rw [g1 87 k (by omega) (by omega) (by omega), congrFun e87 k]
  have g89 : ∀ k, k < 1131 → M 89 k = m 87 k := fun k hk => by rw [hM, hcopy_at hk, gx_u_ne (by omega), f1 87 k (by omega), congrFun e87 k]
  have hcc : hcnt (fun y => decide (M 87 (440 + y) = 1)) 40 = hcnt (fun y => decide (m 87 (440 + y) = 1)) 40 := hcnt_ext 40 (fun j hj => by rw [g87])
  refine hs270 (fun y hy => by rw [g87]; exact (h1.2.2.2.2 y hy).1) ?_
  rw [hcc]
  show hxn xs n yp_m269 20 [] [.inl _] _ _
  refine hx_dn (hr269_20 ⟨rfl, ?_⟩)
  refine ⟨hSt_mv h1 ?_ ?_ ?_ (fun j y b1 b2 b3 => ?_) (fun k hk => g87 k), ?_, fun _ => ?_⟩
  · rw [g1 5 0 (by omega) (by omega) (by omega), e5, g87]; exact h1.1
  · rw [g1 5 1 (by omega) (by omega) (by omega), e5]
  · rw [g1 5 2 (by omega) (by omega) (by omega), e5]
  · rw [g1 (5 + j) y (by omega) (by omega) (by omega)]
    have hj : 5 + j ∉ [18, 19, 20, 21, 22, 23, 24, 25, 26, 27, 28, 29, 30] := by
      simp only [List.mem_cons, List.not_mem_nil, or_false, not_or]
      omega
    exact congrFun (kn (5 + j) hj) y
  · rw [hM, hcopy_ne (by decide), gx_u_ne (by omega), hm1, gx_u_self, hcopy_ne (by decide), gx_u_self]
  · refine hSt_mv h1 ?_ ?_ ?_ (fun j y b1 b2 b3 => ?_) (fun k hk => g89 k (by omega))
    · rw [g1 18 0 (by omega) (by omega) (by omega), k0, g89 1128 (by omega)]; exact h1.1
    · rw [g1 18 1 (by omega) (by omega) (by omega), k1]
    · rw [g1 18 2 (by omega) (by omega) (by omega), k2]
    · rw [g1 (18 + j) y (by omega) (by omega) (by omega)]
      have hj : j = 2 ∨ j = 3 ∨ j = 4 ∨ j = 5 ∨ j = 6 := by omega
      rcases hj with rfl | rfl | rfl | rfl | rfl
      · exact a2 y b3
      · exact a3 y b3
      · exact a4 y b3
      · exact a5 y b3
      · exact a6 y b3
theorem hw_undo {xs : List Int32} {n : Nat} {m : gx_M} (hR : hRS m) : hxn xs n yp_m155 0 [(0, .inr (.inl 0))] [] m (fun r1 m1 => ∃ v, r1 = some (.inl v) ∧ hxn xs n yp_m271 0 [(0, .inr (.inl 86))] [] m1 (fun r2 m2 => r2 = some (.inl v) ∧ hRS m2)) := by
  obtain ⟨h1, h2, h3⟩ := hR
  refine hx_dn (hr155_0 (fun hk => ?_) (fun hk => ⟨0, rfl, hx_dn (hr271_0 (fun c => absurd (by rw [← h2]; exact hk) c) (fun _ => ⟨rfl, h1, h2, h3⟩))⟩))
  have hkr : m 86 47 ≠ 0 := by rw [← h2]; exact hk
  have h3' := h3 hkr
  refine hs71_5_18 (fun m' hC => ?_)
  obtain ⟨k0, k1, k2, k3, k4, a1, a2, a3, a4, a5, a6, a7, a8, a9, a10, a11, a12, kn⟩ := hC
  show hxn xs n yp_m155 20 [] [] m' _
  have hn5 : ∀ c, c ∉ [5, 6, 7, 8, 9, 10, 11, 12, 13, 14, 15, 16, 17] → ∀ k, m' c k = m c k := fun c hc k => congrFun (kn c hc) k
  refine hx_dn (hr155_20 ⟨1, rfl, hx_dn (hr271_0 (fun _ => ⟨rfl, ?_⟩) (fun c => absurd c (by rw [hn5 86 (by decide)]; exact hkr)))⟩)
  obtain ⟨M, hM⟩ : ∃ M, M = hcopy m' 89 0 87 0 1131 := ⟨_, rfl⟩
  rw [← hM]
  have g1 : ∀ c k, c ≠ 87 → M c k = m' c k := fun c k b1 => by rw [hM, hcopy_ne b1]
  have g87 : ∀ k, k < 1131 → M 87 k = m 89 k := fun k hk => by rw [hM, hcopy_at hk, hn5 89 (by decide)]
  refine ⟨hSt_mv h3' ?_ ?_ ?_ (fun j y b1 b2 b3 => ?_) (fun k hk => g87 k (by omega)), ?_, fun _ => ?_⟩
  · rw [g1 5 0 (by omega), k0, g87 1128 (by omega)]; exact h3'.1
  · rw [g1 5 1 (by omega), k1]
  · rw [g1 5 2 (by omega), k2]
  · rw [g1 (5 + j) y (by omega)]
    have hj : j = 2 ∨ j = 3 ∨ j = 4 ∨ j = 5 ∨ j = 6 := by omega
    rcases hj with rfl | rfl | rfl | rfl | rfl
    · exact a2 y b3
    · exact a3 y b3
    · exact a4 y b3
    · exact a5 y b3
    · exact a6 y b3
  · rw [g1 0 12 (by decide), g1 86 47 (by decide), hn5 0 (by decide), hn5 86 (by decide)]
    exact h2
  · have hz : ∀ c k, 18 ≤ c → c ≠ 87 → M c k = m c k := fun c k b1 b2 => by
      rw [g1 c k b2, hn5 c (by simp only [List.mem_cons, List.not_mem_nil, or_false, not_or]; omega)]
    exact hSt_mv h3' (by rw [hz 18 0 (by omega) (by omega), hz 89 1128 (by omega) (by omega)]; exact h3'.1) (hz _ _ (by omega) (by omega)) (hz _ _ (by omega) (by omega)) (fun j y b1 b2 b3 => hz _ _ (by omega) (by omega)) (fun k hk => hz _ _ (by omega) (by omega))
