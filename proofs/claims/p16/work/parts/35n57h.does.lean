/-! acts, done by the reference -/
def rDf (m m' : gx_M) : Prop := ∀ c, c ≠ 87 → c ≠ 102 → c ≠ 103 → m' c = m c
theorem rDf_t {m m1 m2 : gx_M} (h : rDf m m1) (h' : rDf m1 m2) : rDf m m2 := fun c a b d => (h' c a b d).trans (h c a b d)
theorem rDf_u {m : gx_M} {k : Nat} {v : Int} : rDf m (gx_u m 87 k v) := fun c a _ _ => gx_u_off a
theorem rDf_r {m : gx_M} : rDf m m := fun _ _ _ _ => rfl
theorem rDf_L {m m' : gx_M} (h : rDf m m') : hAg hPL m m' := by
  intro q hq k h1 h2
  have e : m' q.1 = m q.1 := by
    simp only [hPL, List.mem_cons, List.not_mem_nil, or_false] at hq
    rcases hq with rfl | rfl | rfl | rfl | rfl | rfl | rfl | rfl | rfl | rfl | rfl | rfl | rfl <;> exact h _ (by decide) (by decide) (by decide)
  rw [e]
theorem rAc_f {A : List hAct} {m m' : gx_M} (h : rDf m m') (hA : rAc A m) : rAc A m' := by
  unfold rAc
  rw [h 86 (by decide) (by decide) (by decide), h 104 (by decide) (by decide) (by decide), h 105 (by decide) (by decide) (by decide), h 106 (by decide) (by decide) (by decide), h 107 (by decide) (by decide) (by decide), h 108 (by decide) (by decide) (by decide)]
  exact hA
theorem su_sw {s : Nat → Int} {i j : Nat} {v w : Int} (h : i ≠ j) : su (su s i v) j w = su (su s j w) i v := by
  funext k
  unfold su
  by_cases e : k = j
  · subst e
    rw [if_pos rfl, if_neg (fun q => h q.symm), if_pos rfl]
  · rw [if_neg e, if_neg e]
section RD
variable {xs : List Int32} {n : Nat} {Q : hQ} {m : gx_M} {Y : Nat} {p z : Int}
theorem wz {k Y : Nat} (hk : k < 2000) (hY : Y < 1000) : (gx_w ((k : Int) + (Y : Int))).toNat = k + Y := by
  rw [gx_w_id (by omega) (by omega)]
  omega
theorem w240 (hY : Y < 40) : (gx_w (240 + (Y : Int))).toNat = 240 + Y := wz (by decide) (by omega)
theorem w280 (hY : Y < 40) : (gx_w (280 + (Y : Int))).toNat = 280 + Y := wz (by decide) (by omega)
theorem w320 (hY : Y < 40) : (gx_w (320 + (Y : Int))).toNat = 320 + Y := wz (by decide) (by omega)
theorem w360 (hY : Y < 40) : (gx_w (360 + (Y : Int))).toNat = 360 + Y := wz (by decide) (by omega)
theorem w400 (hY : Y < 40) : (gx_w (400 + (Y : Int))).toNat = 400 + Y := wz (by decide) (by omega)
theorem w440 (hY : Y < 40) : (gx_w (440 + (Y : Int))).toNat = 440 + Y := wz (by decide) (by omega)
theorem w1120 (hY : Y < 8) : (gx_w (1120 + (Y : Int))).toNat = 1120 + Y := wz (by decide) (by omega)
theorem r210 (hY : Y < 40) (hs : 0 ≤ m 87 (400 + Y) ∧ m 87 (400 + Y) ≤ 16) (h : ∀ m', m' 87 = sGo (m 87) Y p → rDf m m' → Q none m') : hxn xs n yp_m210 0 [(0, .inr (.inl 86)), (1, .inl (Y : Int)), (2, .inl p)] [] m Q := by
  have e0 : gx_u (gx_u (gx_u (gx_u m 87 (240 + Y) p) 87 (280 + Y) (-2)) 87 (320 + Y) 0) 87 (360 + Y) 0 87 = sPwn (su (m 87) (240 + Y) p) Y (-2) 0 := by
    rw [gx_su, gx_su, gx_su, gx_su]
    rfl
  have em : gx_u (gx_u (gx_u (gx_u m 87 (240 + Y) p) 87 (280 + Y) (-2)) 87 (320 + Y) 0) 87 (360 + Y) 0 87 (400 + Y) = m 87 (400 + Y) := by
    rw [gx_u_ne (by omega), gx_u_ne (by omega), gx_u_ne (by omega), gx_u_ne (by omega)]
  have f0 : rDf m (gx_u (gx_u (gx_u (gx_u m 87 (240 + Y) p) 87 (280 + Y) (-2)) 87 (320 + Y) 0) 87 (360 + Y) 0) := rDf_t (rDf_t (rDf_t rDf_u rDf_u) rDf_u) rDf_u
  refine hx_dn (hr210_0 (fun c => ?_) (fun c => ?_))
  · rw [w240 hY, w280 hY, w320 hY, w360 hY, w400 hY, em] at c
    rw [w240 hY, w280 hY, w320 hY, w360 hY, w400 hY]
    generalize gx_u (gx_u (gx_u (gx_u m 87 (240 + Y) p) 87 (280 + Y) (-2)) 87 (320 + Y) 0) 87 (360 + Y) 0 = M at e0 em f0 ⊢
    rw [em]
    have ei : (gx_w ((gx_w (480 + (gx_w (16 * (Y : Int))))) + m 87 (400 + Y))).toNat = 480 + (16 * Y + (m 87 (400 + Y)).toNat) := by
      rw [gx_w_id (x := 16 * (Y : Int)) (by omega) (by omega), gx_w_id (x := 480 + 16 * (Y : Int)) (by omega) (by omega), gx_w_id (by omega) (by omega)]
      omega
    rw [ei]
    have em2 : gx_u M 87 (480 + (16 * Y + (m 87 (400 + Y)).toNat)) p 87 (400 + Y) = m 87 (400 + Y) := by
      rw [gx_u_ne (by omega)]
      exact em
    rw [em2, gx_w_id (by omega) (by omega)]
    refine h _ ?_ (rDf_t f0 (rDf_t rDf_u rDf_u))
    rw [gx_su, gx_su, e0]
    unfold sGo
    rw [if_neg c]
  · rw [w240 hY, w280 hY, w320 hY, w360 hY, w400 hY, em] at c
    rw [w240 hY, w280 hY, w320 hY, w360 hY]
    refine h _ ?_ f0
    rw [e0]
    unfold sGo
    rw [if_pos c]
theorem r198 {P : Nat} (hP : P < 8) (hc : 0 ≤ m 87 (1120 + P) ∧ m 87 (1120 + P) ≤ 99999) (hz : 0 ≤ z ∧ z ≤ 99999) (h : Q (some (.inl (cl99 (m 87 (1120 + P) + z)))) m) : hxn xs n yp_m198 0 [(0, .inr (.inl 86)), (1, .inl (P : Int)), (2, .inl z)] [] m Q := by
  refine hx_dn (hr198_0 ?_)
  rw [w1120 hP, gx_w_id (by omega) (by omega)]
  unfold cl99 at h
  refine hx_dn (hr199_0 (fun c => ?_) (fun c => ?_))
  · by_cases e : m 87 (1120 + P) + z < 99999
    · rw [if_pos e] at h
      exact hx_dn (hr198_17 h)
    · rw [if_neg e] at h
      have : m 87 (1120 + P) + z = 99999 := by omega
      rw [this]
      exact hx_dn (hr198_17 h)
  · rw [if_neg (by omega)] at h
    exact hx_dn (hr198_17 h)
/-- what one pays another, as the reference does it -/
theorem rpay {P R : Nat} {p1 r1 : Int} (hP : P < 8) (hR : R < 8) (hne : P ≠ R) (e1 : p1 = m 87 (1120 + P) - z) (e2 : r1 = cl99 (m 87 (1120 + R) + z)) : (gx_u (gx_u m 87 (1120 + P) p1) 87 (1120 + R) r1) 87 = sPay (m 87) P R z := by
  rw [gx_su, gx_su, e1, e2]
  rfl
variable {A : List hAct} {i : Nat} {a : hAct} {W : (Int → Int) → Int → Option Int}
theorem r197 (hs : sOK (m 87)) (hY : Y < 40) {P R : Nat} (hP : aPers (m 87) (P : Int)) (hR : aPers (m 87) (R : Int)) (hne : P ≠ R) (h1 : m 87 (280 + Y) = (R : Int) → m 87 (360 + Y) ≤ m 87 (1120 + P) → ∀ m', m' 87 = sPwn (sPay (m 87) P R (m 87 (360 + Y))) Y (-2) 0 → rDf m m' → Q (some (.inl 1)) m') (h0 : ¬ (m 87 (280 + Y) = (R : Int) ∧ m 87 (360 + Y) ≤ m 87 (1120 + P)) → Q (some (.inl 0)) m) : hxn xs n yp_m197 0 [(0, .inr (.inl 86)), (1, .inl (Y : Int)), (2, .inl (P : Int)), (3, .inl (R : Int))] [] m Q := by
  have p8 : P < 8 := by have := hP.2.1; omega
  have r8 : R < 8 := by have := hR.2.1; omega
  have k1 := hs.coin P p8
  have k2 := hs.coin R r8
  have kd := hs.due Y hY
  refine hx_dn (hr197_0 (fun c => ?_) (fun c d => ?_) (fun c d => ?_))
  · rw [w280 hY] at c
    exact h0 (fun q => c q.1)
  · rw [w280 hY] at c
    rw [w360 hY, w1120 p8] at d
    rw [w360 hY, w1120 p8]
    have w1 : gx_w (m 87 (1120 + P) - m 87 (360 + Y)) = m 87 (1120 + P) - m 87 (360 + Y) := gx_w_id (by omega) (by omega)
    have w2 : gx_u m 87 (1120 + P) (m 87 (1120 + P) - m 87 (360 + Y)) 87 (360 + Y) = m 87 (360 + Y) := gx_u_ne (by omega)
    have w3 : gx_u m 87 (1120 + P) (m 87 (1120 + P) - m 87 (360 + Y)) 87 (1120 + R) = m 87 (1120 + R) := gx_u_ne (by omega)
    rw [w1, w2]
    refine r198 r8 (by rw [w3]; exact k2) kd ?_
    rw [w3]
    refine hx_dn (hr197_94 ?_)
    rw [w1120 r8, w280 hY, w320 hY, w360 hY]
    refine h1 c d _ ?_ (rDf_t (rDf_t (rDf_t (rDf_t rDf_u rDf_u) rDf_u) rDf_u) rDf_u)
    have e0 := rpay (m := m) (P := P) (R := R) (z := m 87 (360 + Y)) p8 r8 hne rfl rfl
    rw [gx_su, gx_su, gx_su, e0]
    rfl
  · rw [w360 hY, w1120 p8] at d
    exact h0 (fun q => by have := q.2; omega)
theorem r195 (hL : lawR xs W m) (hA : rAc A m) (hi : A[i]? = some a) (h16 : A.length ≤ 16) (ha : aOK a) (hs : sOK (m 87)) (h1 : dCan W (m 87) a → ∀ m', rDf m m' → m' 87 = dDo (m 87) a → Q (some (.inl 1)) m') (h0 : ¬ dCan W (m 87) a → ∀ m', rDf m m' → m' 87 = m 87 → Q (some (.inl 0)) m') : hxn xs n yp_m195 0 [(0, .inr (.inl 86)), (1, .inl (i : Int))] [] m Q := by
  obtain ⟨v1, v2, v3, v4, v5⟩ := hA.2 i a hi
  obtain ⟨a1, a2, a3, a4, a5, a6⟩ := ha
  have no : ∀ {P : Prop}, P → (dCan W (m 87) a → ¬ P) → Q (some (.inl 0)) m := fun hP hh => h0 (fun q => hh q hP) m rDf_r rfl
  refine hx_dn (hr195_0 ?_ ?_ ?_ ?_ ?_ ?_)
  all_goals rw [Int.toNat_natCast, v1]
  · intro cy c2 c3 c4 d1
    rw [v2] at c2
    rw [v4] at c3
    rw [v2, w240 a1] at c4
    rw [v3] at d1
    rw [v2, v4, v5]
    have ht := (aYr_iff a1).mp cy
    have hh := hs.hold a.1 a1
    refine hx_dn (hr200_0 (fun e => ?_) (fun e => ?_))
    · rw [w280 a1] at e
      refine hx_dn (hr195_96 (s0 := 0) (fun c => absurd rfl c) (fun _ => ?_))
      refine rBar hL hs a1 (by omega) (fun m1 f1 => ?_)
      have e87 : m1 87 = m 87 := f1 87 (by decide) (by decide)
      have f1' : rDf m m1 := fun c _ b d => f1 c b d
      cases hW : (W (env1 (m 87) a.1 (a.2.2.2.1 : Int) (a.2.2.2.2 : Int)) 110).isSome with
      | true => exact hx_dn (hr195_108 (s0 := 1) (fun _ => h0 (fun q => q.2.2.2.2.elim (fun r => d1 r.1) (fun r => by have := r.2.2.2; rw [hW] at this; cases this)) m1 f1' e87) (fun c => absurd c (by decide)) (fun c => absurd c (by decide)))
      | false =>
        refine hx_dn (hr195_108 (s0 := 0) (fun c => absurd rfl c) (fun _ d => ?_) (fun _ d => ?_))
        · rw [w1120 a3, e87] at d
          have hc : dCan W (m 87) a := ⟨ht, c2, c3, c4, .inr ⟨d1, by omega, d, hW⟩⟩
          have k1 := hs.coin _ a3
          have k2 := hs.coin _ a2
          rw [w1120 a3, e87, gx_w_id (by omega) (by omega)]
          have w3 : gx_u m1 87 (1120 + a.2.2.2.1) (m 87 (1120 + a.2.2.2.1) - (a.2.2.2.2 : Int)) 87 (1120 + a.2.1) = m 87 (1120 + a.2.1) := by
            rw [gx_u_ne (by omega), e87]
          refine r198 a2 (by rw [w3]; exact k2) (by omega) ?_
          rw [w3]
          have e0 := rpay (m := m1) (P := a.2.2.2.1) (R := a.2.1) (z := (a.2.2.2.2 : Int)) a3 a2 (fun q => a4 q.symm) rfl rfl
          rw [e87] at e0
          have eD := h1 hc
          unfold dDo at eD
          rw [if_neg d1] at eD
          have w6 : ∀ M : gx_M, (∀ c, c ≠ 87 → M c = m1 c) → M 106 i = a.2.2.1 := fun M hM => by
            rw [hM 106 (by decide), f1 106 (by decide) (by decide)]
            exact v3
          have fM : rDf m (gx_u (gx_u m1 87 (1120 + a.2.2.2.1) (m 87 (1120 + a.2.2.2.1) - (a.2.2.2.2 : Int))) 87 (1120 + a.2.1) (cl99 (m 87 (1120 + a.2.1) + (a.2.2.2.2 : Int)))) := rDf_t f1' (rDf_t rDf_u rDf_u)
          refine hx_dn (hr195_170 (fun e2 => ?_) (fun e2 => ?_))
          · rw [Int.toNat_natCast, w6 _ (fun c hc => gx_u_off hc)] at e2
            rw [if_pos e2] at eD
            rw [w1120 a2, w280 a1, w320 a1, w360 a1]
            refine eD _ (rDf_t (rDf_t (rDf_t fM rDf_u) rDf_u) rDf_u) ?_
            rw [gx_su, gx_su, gx_su, e0]
            rfl
          · rw [Int.toNat_natCast, w6 _ (fun c hc => gx_u_off hc)] at e2
            rw [if_neg e2] at eD
            rw [w1120 a2]
            refine r210 a1 ?_ (fun m2 g1 g2 => ?_)
            · rw [e0, sPay_y (by omega)]
              exact hs.many _ a1
            · rw [e0] at g1
              exact hx_dn (hr195_189 (eD m2 (rDf_t fM g2) g1))
        · rw [w1120 a3, e87] at d
          exact h0 (fun q => q.2.2.2.2.elim (fun r => d1 r.1) (fun r => by have := r.2.2.1; omega)) m1 f1' e87
    · rw [w280 a1] at e
      refine hx_dn (hr195_96 (s0 := 1) (fun _ => ?_) (fun c => absurd c (by decide)))
      exact no e (fun q hd => q.2.2.2.2.elim (fun r => d1 r.1) (fun r => by have := r.2.1; omega))
  · intro cy c2 c3 c4 d1
    rw [v2] at c2
    rw [v4] at c3
    rw [v2, w240 a1] at c4
    rw [v3] at d1
    rw [v2, v4]
    have ht := (aYr_iff a1).mp cy
    refine r197 hs a1 c2 c3 a4 (fun e1 e2 m1 g1 g2 => ?_) (fun e1 => ?_)
    · have hc : dCan W (m 87) a := ⟨ht, c2, c3, c4, .inl ⟨d1, e1, e2⟩⟩
      refine hx_dn (hr195_90 (h1 hc m1 g2 ?_))
      unfold dDo
      rw [if_pos d1]
      exact g1
    · exact hx_dn (hr195_90 (no e1 (fun q hd => hd (q.2.2.2.2.elim (fun r => ⟨r.2.1, r.2.2⟩) (fun r => absurd d1 r.1)))))
  · intro _ _ _ d
    rw [v2, w240 a1] at d
    exact no d (fun q hd => hd q.2.2.2.1)
  · intro _ _ d
    rw [v4] at d
    exact no d (fun q hd => hd q.2.2.1)
  · intro _ d
    rw [v2] at d
    exact no d (fun q hd => hd q.2.1)
  · intro d
    exact no d (fun q hd => hd ((aYr_iff a1).mpr q.1))
end RD
