/-! acts: when they can be, what they do -/
def cl99 (x : Int) : Int := if x < 99999 then x else 99999
def sPwn (s : Nat → Int) (y : Nat) (p z : Int) : Nat → Int := su (su (su s (280 + y) p) (320 + y) z) (360 + y) z
def sGo (s : Nat → Int) (y : Nat) (p : Int) : Nat → Int := if s (400 + y) = 16 then sPwn (su s (240 + y) p) y (-2) 0 else su (su (sPwn (su s (240 + y) p) y (-2) 0) (480 + (16 * y + (s (400 + y)).toNat)) p) (400 + y) (s (400 + y) + 1)
def sPay (s : Nat → Int) (p q : Nat) (z : Int) : Nat → Int := su (su s (1120 + p) (s (1120 + p) - z)) (1120 + q) (cl99 (s (1120 + q) + z))
def dCan (W : (Int → Int) → Int → Option Int) (s : Nat → Int) (a : hAct) : Prop := s (440 + a.1) = 1 ∧ aPers s (a.2.1 : Int) ∧ aPers s (a.2.2.2.1 : Int) ∧ s (240 + a.1) = (a.2.1 : Int) ∧ ((a.2.2.1 = 91 ∧ s (280 + a.1) = (a.2.2.2.1 : Int) ∧ s (360 + a.1) ≤ s (1120 + a.2.1)) ∨ (a.2.2.1 ≠ 91 ∧ s (280 + a.1) = -2 ∧ (a.2.2.2.2 : Int) ≤ s (1120 + a.2.2.2.1) ∧ (W (env1 s a.1 (a.2.2.2.1 : Int) (a.2.2.2.2 : Int)) 110).isSome = false))
def dDo (s : Nat → Int) (a : hAct) : Nat → Int := if a.2.2.1 = 91 then sPwn (sPay s a.2.1 a.2.2.2.1 (s (360 + a.1))) a.1 (-2) 0 else if a.2.2.1 = 93 then sPwn (sPay s a.2.2.2.1 a.2.1 (a.2.2.2.2 : Int)) a.1 (a.2.2.2.1 : Int) (a.2.2.2.2 : Int) else sGo (sPay s a.2.2.2.1 a.2.1 (a.2.2.2.2 : Int)) a.1 (a.2.2.2.1 : Int)
def bFr (b : Nat) (m m' : gx_M) : Prop := ∀ c, (c < b ∨ b + 12 < c) → m' c = m c
theorem bFr_t {b : Nat} {m m1 m2 : gx_M} (h : bFr b m m1) (h' : bFr b m1 m2) : bFr b m m2 := fun c a => (h' c a).trans (h c a)
theorem bFr_u {b c k : Nat} {v : Int} {m : gx_M} (h : b ≤ c ∧ c ≤ b + 12) : bFr b m (gx_u m c k v) := fun c' a => gx_u_off (by omega)
section BR
variable {b : Nat} {s : Nat → Int} {m : gx_M}
theorem cY_iff (h : sBk b s m) {Y : Nat} (hY : Y < 40) : cYear b m (Y : Int) ↔ s (440 + Y) = 1 := by
  unfold cYear
  rw [h.1.2.1, hmask_test hY]
  constructor
  · rintro ⟨-, -, c⟩
    split at c
    · rename_i q
      rw [decide_eq_true_eq] at q
      exact q
    · exact absurd rfl c
  · intro c
    rw [if_pos (decide_eq_true c)]
    exact ⟨by omega, by omega, by decide⟩
theorem cP_iff (h : sBk b s m) {p : Int} : cPers b m p ↔ aPers s p := by
  unfold cPers aPers
  rw [h.1.1]
  have := hb01 (s 1128) p
  constructor
  · exact fun ⟨h1, h2, h3⟩ => ⟨h1, h2, by omega⟩
  · exact fun ⟨h1, h2, h3⟩ => ⟨h1, h2, by omega⟩
theorem aYr_iff {Y : Nat} (hY : Y < 40) : aYr s (Y : Int) ↔ s (440 + Y) = 1 := by
  unfold aYr
  have e : (440 + (Y : Int)).toNat = 440 + Y := by omega
  rw [e]
  exact ⟨fun h => h.2.2, fun h => ⟨by omega, by omega, h⟩⟩
theorem aPers_su {p v : Int} {k : Nat} (hk : k ≠ 1128) : aPers (su s k v) p ↔ aPers s p := by
  unfold aPers
  rw [su_ne (fun e => hk e.symm)]
theorem cl99_b {x : Int} (h : 0 ≤ x) : 0 ≤ cl99 x ∧ cl99 x ≤ 99999 := by
  unfold cl99
  split <;> omega
theorem sPwn_ok {y : Nat} {p z : Int} (hy : y < 40) (hp : p = -2 ∨ (0 ≤ p ∧ p ≤ 7)) (hz : 0 ≤ z ∧ z ≤ 99999) (h : sOK s) : sOK (sPwn s y p z) := sK_due hy hz (sK_lent hy hz (sK_hold hy hp h))
theorem sGo_ok {y : Nat} {p : Int} (hy : y < 40) (hp : 0 ≤ p ∧ p ≤ 7) (h : sOK s) : sOK (sGo s y p) := by
  have h1 : sOK (sPwn (su s (240 + y) p) y (-2) 0) := sPwn_ok hy (.inl rfl) (by decide) (sK_own hy hp h)
  have hm := h.many y hy
  unfold sGo
  split
  · exact h1
  · exact sK_many hy (by omega) (sK_hand (by omega) hp h1)
theorem aPers_bit {p : Nat} (h : aPers s (p : Int)) : ¬ gx_and (gx_shr (s 1128) (p : Int)) 1 = 0 := by
  have := h.2.2
  omega
theorem sPay_ok {p q : Nat} {z : Int} (hp : aPers s (p : Int)) (hq : aPers s (q : Int)) (hz : 0 ≤ z ∧ z ≤ s (1120 + p)) (h : sOK s) : sOK (sPay s p q z) := by
  have p8 : p < 8 := by have := hp.2.1; omega
  have q8 : q < 8 := by have := hq.2.1; omega
  have c1 := h.coin p p8
  have c2 := h.coin q q8
  refine sK_coin q8 (cl99_b (by omega)) (fun c => ?_) (sK_coin p8 (by omega) (fun c => absurd c (aPers_bit hp)) h)
  rw [su_ne (by omega)] at c
  exact absurd c (aPers_bit hq)
theorem dDo_ok {W : (Int → Int) → Int → Option Int} {a : hAct} (ha : aOK a) (h : sOK s) (hc : dCan W s a) : sOK (dDo s a) := by
  obtain ⟨a1, a2, a3, a4, a5, a6⟩ := ha
  obtain ⟨c1, c2, c3, c4, c5⟩ := hc
  unfold dDo
  rcases c5 with ⟨e, c6, c7⟩ | ⟨e, c6, c7, -⟩
  · rw [if_pos e]
    have := h.due a.1 a1
    exact sPwn_ok a1 (.inl rfl) (by decide) (sPay_ok c2 c3 (by omega) h)
  · rw [if_neg e]
    have hs := sPay_ok (z := (a.2.2.2.2 : Int)) c3 c2 (by omega) h
    split
    · exact sPwn_ok a1 (.inr (by omega)) (by omega) hs
    · exact sGo_ok a1 (by omega) hs
theorem sPay_y {p q : Nat} {z : Int} {k : Nat} (hk : k < 1120) : sPay s p q z k = s k := by
  unfold sPay
  rw [su_ne (by omega), su_ne (by omega)]
end BR
def cDf (b : Nat) (m m' : gx_M) : Prop := ∀ c k, (c < b ∨ b + 12 < c) → c ≠ 51 → ¬ (c = 44 ∧ 9 ≤ k ∧ k ≤ 11) → m' c k = m c k
theorem cDf_b {b : Nat} {m m' : gx_M} (h : bFr b m m') : cDf b m m' := fun c k a _ _ => congrFun (h c a) k
theorem cDf_f {b : Nat} {m m' : gx_M} (h : cLf m m') : cDf b m m' := fun c k _ a b => h c k a b
theorem cDf_t {b : Nat} {m m1 m2 : gx_M} (h : cDf b m m1) (h' : cDf b m1 m2) : cDf b m m2 := fun c k a d e => (h' c k a d e).trans (h c k a d e)
section AC5
variable {xs : List Int32} {n : Nat} {Q : hQ} {s : Nat → Int} {m : gx_M} {Y : Nat} {p z : Int}
theorem cd19 (hY : Y < 40) (hB : sBk 5 s m) (ht : s (440 + Y) = 1) (h : ∀ m', sBk 5 (sPwn s Y p z) m' → bFr 5 m m' → Q none m') : hxn xs n yp_m19 0 [(0, .inr (.inl 5)), (1, .inl (Y : Int)), (2, .inl p), (3, .inl z)] [] m Q := by
  refine hx_dn (hr19_0 (fun _ => ?_) (fun c => absurd ((cY_iff hB hY).mpr ht) c))
  rw [Int.toNat_natCast]
  exact h _ (sU_due (b := 5) hY (sU_lent (b := 5) hY (sU_hold (b := 5) hY hB))) (bFr_t (bFr_t (bFr_u (by decide)) (bFr_u (by decide))) (bFr_u (by decide)))
theorem cd18 (hY : Y < 40) (hB : sBk 5 s m) (ht : s (440 + Y) = 1) (h : ∀ m', sBk 5 (sPwn s Y (-2) 0) m' → bFr 5 m m' → Q none m') : hxn xs n yp_m18 0 [(0, .inr (.inl 5)), (1, .inl (Y : Int))] [] m Q :=
  hx_dn (hr18_0 (cd19 hY hB ht (fun m' h1 h2 => hx_dn (hr18_8 (h m' h1 h2)))))
theorem cd16 (hY : Y < 40) (hs : 0 ≤ s (400 + Y) ∧ s (400 + Y) ≤ 16) (hB : sBk 5 s m) (ht : s (440 + Y) = 1) (h : ∀ m', sBk 5 (sGo s Y p) m' → bFr 5 m m' → Q none m') : hxn xs n yp_m16 0 [(0, .inr (.inl 5)), (1, .inl (Y : Int)), (2, .inl p)] [] m Q := by
  refine hx_dn (hr16_0 (fun _ => ?_) (fun c => absurd ((cY_iff hB hY).mpr ht) c))
  rw [Int.toNat_natCast]
  refine cd18 hY (sU_own (b := 5) hY hB) (by rw [su_ne (by omega)]; exact ht) (fun m1 h1 f1 => ?_)
  have f0 : bFr 5 m m1 := bFr_t (bFr_u (by decide)) f1
  have em : m1 16 Y = s (400 + Y) := by
    rw [sB5_many h1 Y hY]
    unfold sPwn
    rw [su_ne (by omega), su_ne (by omega), su_ne (by omega), su_ne (by omega)]
  unfold sGo at h
  refine hx_dn (hr16_21 (fun c => ?_) (fun c1 c2 => ?_) (fun c1 c2 => ?_))
  · rw [Int.toNat_natCast, em] at c
    exact absurd c (by omega)
  · rw [Int.toNat_natCast, em] at c1 c2
    rw [if_neg (by omega)] at h
    rw [Int.toNat_natCast, em]
    have ei : (gx_w ((gx_w ((Y : Int) * 16)) + s (400 + Y))).toNat = 16 * Y + (s (400 + Y)).toNat := by
      rw [gx_w_id (x := (Y : Int) * 16) (by omega) (by omega), gx_w_id (by omega) (by omega)]
      omega
    rw [ei]
    exact h _ (sU_many (b := 5) hY (sU_hand (b := 5) (by omega) h1)) (bFr_t f0 (bFr_t (bFr_u (by decide)) (bFr_u (by decide))))
  · rw [Int.toNat_natCast, em] at c1 c2
    rw [if_pos (by omega)] at h
    exact h m1 h1 f0
theorem cd69 {P : Nat} (hP : aPers s (P : Int)) (hc : 0 ≤ s (1120 + P) ∧ s (1120 + P) ≤ 99999) (hz : 0 ≤ z ∧ z ≤ 99999) (hB : sBk 5 s m) (h : ∀ m', sBk 5 (su s (1120 + P) (cl99 (s (1120 + P) + z))) m' → bFr 5 m m' → Q none m') : hxn xs n yp_m69 0 [(0, .inr (.inl 5)), (1, .inl (P : Int)), (2, .inl z)] [] m Q := by
  have p8 : P < 8 := by have := hP.2.1; omega
  refine hx_dn (hr69_0 (fun _ => ?_) (fun c => absurd ((cP_iff hB).mpr hP) c))
  rw [Int.toNat_natCast, sB5_coin hB P p8, gx_w_id (by omega) (by omega)]
  exact h _ (sU_coin (b := 5) p8 hB) (bFr_u (by decide))
theorem cd68 {P R : Nat} (hP : aPers s (P : Int)) (hR : aPers s (R : Int)) (hne : P ≠ R) (hs : sOK s) (hz : 0 ≤ z ∧ z ≤ 99999) (hB : sBk 5 s m) (h : ∀ m', sBk 5 (sPay s P R z) m' → bFr 5 m m' → Q none m') : hxn xs n yp_m68 0 [(0, .inr (.inl 5)), (1, .inl (P : Int)), (2, .inl (R : Int)), (3, .inl z)] [] m Q := by
  have p8 : P < 8 := by have := hP.2.1; omega
  have r8 : R < 8 := by have := hR.2.1; omega
  have k1 := hs.coin P p8
  have k2 := hs.coin R r8
  refine hx_dn (hr68_0 (fun _ => ?_) (fun c => absurd ((cP_iff hB).mpr hP) c))
  rw [Int.toNat_natCast, sB5_coin hB P p8, gx_w_id (by omega) (by omega)]
  have e : su s (1120 + P) (s (1120 + P) - z) (1120 + R) = s (1120 + R) := su_ne (by omega)
  refine cd69 (s := su s (1120 + P) (s (1120 + P) - z)) ((aPers_su (by omega)).mpr hR) (by rw [e]; exact k2) hz (sU_coin (b := 5) p8 hB) (fun m1 h1 f1 => ?_)
  rw [e] at h1
  exact hx_dn (hr68_25 (h m1 h1 (bFr_t (bFr_u (by decide)) f1)))
variable {A : List hAct} {i : Nat} {a : hAct} {W : (Int → Int) → Int → Option Int}
theorem cd67 (hA : cAc A m) (hi : A[i]? = some a) (h16 : A.length ≤ 16) (ha : aOK a) (hs : sOK s) (hB : sBk 5 s m) (hc : dCan W s a) (h : ∀ m', sBk 5 (dDo s a) m' → bFr 5 m m' → Q none m') : hxn xs n yp_m67 0 [(0, .inr (.inl 61)), (1, .inr (.inl 5)), (2, .inl (i : Int))] [] m Q := by
  have hlt := lg_lt hi
  obtain ⟨v1, v2, v3, v4, v5⟩ := hA.2 i a hi
  obtain ⟨a1, a2, a3, a4, a5, a6⟩ := ha
  obtain ⟨c1, c2, c3, c4, c5⟩ := hc
  unfold dDo at h
  refine hx_dn (hr67_0 (fun c => absurd c (by omega)) (fun _ c => absurd c (by omega)) (fun _ _ _ e => ?_) (fun _ _ _ e => ?_) (fun _ _ c => ?_))
  · rw [Int.toNat_natCast, v3] at e
    rw [if_neg e] at h
    rcases c5 with ⟨e', -⟩ | ⟨-, c6, c7, -⟩
    · exact absurd e' e
    rw [Int.toNat_natCast, v1, v2, v4, v5]
    refine cd68 (z := (a.2.2.2.2 : Int)) c3 c2 (fun q => a4 q.symm) hs (by omega) hB (fun m1 h1 f1 => ?_)
    have w3 : m1 64 i = a.2.2.1 := by rw [f1 64 (by decide)]; exact v3
    have w5 : m1 66 i = (a.2.2.2.2 : Int) := by rw [f1 66 (by decide)]; exact v5
    have hm : 0 ≤ sPay s a.2.2.2.1 a.2.1 (a.2.2.2.2 : Int) (400 + a.1) ∧ sPay s a.2.2.2.1 a.2.1 (a.2.2.2.2 : Int) (400 + a.1) ≤ 16 := by
      rw [sPay_y (by omega)]
      exact hs.many a.1 a1
    have ht : sPay s a.2.2.2.1 a.2.1 (a.2.2.2.2 : Int) (440 + a.1) = 1 := by
      rw [sPay_y (by omega)]
      exact c1
    refine hx_dn (hr67_92 (fun e2 => ?_) (fun e2 => ?_))
    · rw [Int.toNat_natCast, w3] at e2
      rw [if_neg e2] at h
      exact cd16 a1 hm h1 ht (fun m2 h2 f2 => hx_dn (hr67_126 (h m2 h2 (bFr_t f1 f2))))
    · rw [Int.toNat_natCast, w3] at e2
      rw [if_pos e2] at h
      rw [Int.toNat_natCast, w5]
      exact cd19 a1 h1 ht (fun m2 h2 f2 => hx_dn (hr67_116 (h m2 h2 (bFr_t f1 f2))))
  · rw [Int.toNat_natCast, v3] at e
    rw [if_pos e] at h
    rcases c5 with ⟨-, c6, c7⟩ | ⟨e', -⟩
    case inr => exact absurd e e'
    rw [Int.toNat_natCast, v1, v2, v4, Int.toNat_natCast, sB5_due hB a.1 a1]
    have hd := hs.due a.1 a1
    refine cd68 c2 c3 a4 hs hd hB (fun m1 h1 f1 => ?_)
    have ht : sPay s a.2.1 a.2.2.2.1 (s (360 + a.1)) (440 + a.1) = 1 := by
      rw [sPay_y (by omega)]
      exact c1
    refine hx_dn (hr67_72 ?_)
    exact cd18 a1 h1 ht (fun m2 h2 f2 => hx_dn (hr67_77 (h m2 h2 (bFr_t f1 f2))))
  · rw [Int.toNat_natCast, v1] at c
    exact absurd ((cY_iff hB a1).mpr c1) c
theorem cd54 (hL : lawR xs W m) (hA : cAc A m) (hi : A[i]? = some a) (h16 : A.length ≤ 16) (ha : aOK a) (hs : sOK s) (hB : sBk 5 s m) (h1 : dCan W s a → ∀ m', cLf m m' → Q (some (.inl 1)) m') (h0 : ¬ dCan W s a → ∀ m', cLf m m' → Q (some (.inl 0)) m') : hxn xs n yp_m54 0 [(0, .inr (.inl 61)), (1, .inr (.inl 5)), (2, .inr (.inl 44)), (3, .inl (i : Int))] [] m Q := by
  have hlt := lg_lt hi
  have hn := hA.1
  obtain ⟨v1, v2, v3, v4, v5⟩ := hA.2 i a hi
  obtain ⟨a1, a2, a3, a4, a5, a6⟩ := ha
  have e1 := sB5_own hB a.1 a1
  have rr : cLf m m := fun _ _ _ _ => rfl
  have no : ∀ {P : Prop}, P → (dCan W s a → ¬ P) → Q (some (.inl 0)) m := fun hP hh => h0 (fun q => hh q hP) m rr
  refine hx_dn (hr54_0 (fun c => absurd c (by omega)) (fun _ c => absurd c (by omega)) ?_ ?_ ?_ ?_ ?_ ?_ ?_ ?_ ?_ ?_ (fun _ _ c => absurd c (by omega)))
  all_goals rw [Int.toNat_natCast, v1]
  · intro _ _ _ cy _ _ _ d1 d2
    rw [v3] at d1
    rw [Int.toNat_natCast, sB5_hold hB a.1 a1 ((cY_iff hB a1).mp cy)] at d2
    exact no d2 (fun q hd => q.2.2.2.2.elim (fun r => d1 r.1) (fun r => hd r.2.1))
  · intro _ _ _ cy _ _ _ d1 d2 d3
    rw [v3] at d1
    rw [v4, v5, Int.toNat_natCast, sB5_coin hB _ a3] at d3
    exact no d3 (fun q hd => q.2.2.2.2.elim (fun r => d1 r.1) (fun r => by have := r.2.2.1; omega))
  · intro _ _ _ cy c2 c3 c4 d1 d2 d3
    rw [v3] at d1
    have ht := (cY_iff hB a1).mp cy
    rw [v2] at c2
    rw [v4] at c3
    rw [v2, Int.toNat_natCast, e1] at c4
    rw [Int.toNat_natCast, sB5_hold hB a.1 a1 ht] at d2
    rw [v4, v5, Int.toNat_natCast, sB5_coin hB _ a3] at d3
    rw [v4, v5]
    refine cForb (.inl rfl) hL hs hB a1 (by omega) (fun m1 f1 => ?_)
    cases hW : (W (env1 s a.1 (a.2.2.2.1 : Int) (a.2.2.2.2 : Int)) 110).isSome with
    | false => exact hx_dn (hr54_174 (s0 := 0) (fun c => absurd rfl c) (fun _ => h1 ⟨ht, (cP_iff hB).mp c2, (cP_iff hB).mp c3, c4, .inr ⟨d1, d2, d3, hW⟩⟩ m1 f1))
    | true => exact hx_dn (hr54_174 (s0 := 1) (fun _ => h0 (fun q => q.2.2.2.2.elim (fun r => d1 r.1) (fun r => by have := r.2.2.2; rw [hW] at this; cases this)) m1 f1) (fun c => absurd c (by decide)))
  · intro _ _ _ cy _ _ _ d1 d2
    rw [v3] at d1
    rw [v4, Int.toNat_natCast, sB5_hold hB a.1 a1 ((cY_iff hB a1).mp cy)] at d2
    exact no d2 (fun q hd => q.2.2.2.2.elim (fun r => hd r.2.1) (fun r => r.1 d1))
  · intro _ _ _ cy _ _ _ d1 d2 d3
    rw [v3] at d1
    rw [v2, Int.toNat_natCast, Int.toNat_natCast, sB5_coin hB _ a2, sB5_due hB a.1 a1] at d3
    exact no d3 (fun q hd => q.2.2.2.2.elim (fun r => by have := r.2.2; omega) (fun r => r.1 d1))
  · intro _ _ _ cy c2 c3 c4 d1 d2 d3
    rw [v3] at d1
    have ht := (cY_iff hB a1).mp cy
    rw [v2] at c2
    rw [v4] at c3
    rw [v2, Int.toNat_natCast, e1] at c4
    rw [v4, Int.toNat_natCast, sB5_hold hB a.1 a1 ht] at d2
    rw [v2, Int.toNat_natCast, Int.toNat_natCast, sB5_coin hB _ a2, sB5_due hB a.1 a1] at d3
    exact h1 ⟨ht, (cP_iff hB).mp c2, (cP_iff hB).mp c3, c4, .inl ⟨d1, d2, d3⟩⟩ m rr
  · intro _ _ _ _ _ _ d
    rw [v2, Int.toNat_natCast, e1] at d
    exact no d (fun q hd => hd q.2.2.2.1)
  · intro _ _ _ _ _ d
    rw [v4] at d
    exact no d (fun q hd => hd ((cP_iff hB).mpr q.2.2.1))
  · intro _ _ _ _ d
    rw [v2] at d
    exact no d (fun q hd => hd ((cP_iff hB).mpr q.2.1))
  · intro _ _ _ d
    exact no d (fun q hd => hd ((cY_iff hB a1).mpr q.1))
theorem cAc_f5 {m' : gx_M} (h : cDf 5 m m') (hA : cAc A m) : cAc A m' := by
  refine ⟨by rw [h 61 5 (by decide) (by decide) (by omega)]; exact hA.1, fun i a hi => ?_⟩
  rw [h 62 i (by decide) (by decide) (by omega), h 63 i (by decide) (by decide) (by omega), h 64 i (by decide) (by decide) (by omega), h 65 i (by decide) (by decide) (by omega), h 66 i (by decide) (by decide) (by omega)]
  exact hA.2 i a hi
theorem cDf_L5 {m' : gx_M} (h : cDf 5 m m') : hAg hPL m m' := by
  intro q hq k h1 h2
  refine h q.1 k ?_ ?_ ?_
  · simp only [hPL, List.mem_cons, List.not_mem_nil, or_false] at hq
    rcases hq with rfl | rfl | rfl | rfl | rfl | rfl | rfl | rfl | rfl | rfl | rfl | rfl | rfl <;> decide
  · simp only [hPL, List.mem_cons, List.not_mem_nil, or_false] at hq
    rcases hq with rfl | rfl | rfl | rfl | rfl | rfl | rfl | rfl | rfl | rfl | rfl | rfl | rfl <;> decide
  · simp only [hPL, List.mem_cons, List.not_mem_nil, or_false] at hq
    rcases hq with rfl | rfl | rfl | rfl | rfl | rfl | rfl | rfl | rfl | rfl | rfl | rfl | rfl <;> dsimp only at h1 h2 ⊢ <;> omega
theorem cd53 (hL : lawR xs W m) (hA : cAc A m) (hi : A[i]? = some a) (h16 : A.length ≤ 16) (ha : aOK a) (hs : sOK s) (hB : sBk 5 s m) (h1 : dCan W s a → ∀ m', cDf 5 m m' → sBk 5 (dDo s a) m' → Q (some (.inl 1)) m') (h0 : ¬ dCan W s a → ∀ m', cDf 5 m m' → sBk 5 s m' → Q (some (.inl 0)) m') : hxn xs n yp_m53 0 [(0, .inr (.inl 61)), (1, .inr (.inl 5)), (2, .inr (.inl 44)), (3, .inl (i : Int))] [] m Q := by
  refine hx_dn (hr53_0 (cd54 hL hA hi h16 ha hs hB (fun hc m1 f1 => ?_) (fun hc m1 f1 => ?_)))
  · refine hx_dn (hr53_7 (s0 := 1) (fun _ => ?_) (fun c => absurd c (by decide)))
    exact cd67 (cAc_f5 (cDf_f f1) hA) hi h16 ha hs (cLf_b (.inl rfl) f1 hB) hc (fun m2 h2 f2 => hx_dn (hr53_18 (h1 hc m2 (cDf_t (cDf_f f1) (cDf_b f2)) h2)))
  · exact hx_dn (hr53_7 (s0 := 0) (fun c => absurd rfl c) (fun _ => h0 hc m1 (cDf_f f1) (cLf_b (.inl rfl) f1 hB)))
end AC5
section AC31
variable {xs : List Int32} {n : Nat} {Q : hQ} {s : Nat → Int} {m : gx_M} {Y : Nat} {p z : Int}
theorem cd31_19 (hY : Y < 40) (hB : sBk 31 s m) (ht : s (440 + Y) = 1) (h : ∀ m', sBk 31 (sPwn s Y p z) m' → bFr 31 m m' → Q none m') : hxn xs n yp_m19 0 [(0, .inr (.inl 31)), (1, .inl (Y : Int)), (2, .inl p), (3, .inl z)] [] m Q := by
  refine hx_dn (hr31_19_0 (fun _ => ?_) (fun c => absurd ((cY_iff hB hY).mpr ht) c))
  rw [Int.toNat_natCast]
  exact h _ (sU_due (b := 31) hY (sU_lent (b := 31) hY (sU_hold (b := 31) hY hB))) (bFr_t (bFr_t (bFr_u (by decide)) (bFr_u (by decide))) (bFr_u (by decide)))
theorem cd31_18 (hY : Y < 40) (hB : sBk 31 s m) (ht : s (440 + Y) = 1) (h : ∀ m', sBk 31 (sPwn s Y (-2) 0) m' → bFr 31 m m' → Q none m') : hxn xs n yp_m18 0 [(0, .inr (.inl 31)), (1, .inl (Y : Int))] [] m Q :=
  hx_dn (hr31_18_0 (cd31_19 hY hB ht (fun m' h1 h2 => hx_dn (hr31_18_8 (h m' h1 h2)))))
theorem cd31_16 (hY : Y < 40) (hs : 0 ≤ s (400 + Y) ∧ s (400 + Y) ≤ 16) (hB : sBk 31 s m) (ht : s (440 + Y) = 1) (h : ∀ m', sBk 31 (sGo s Y p) m' → bFr 31 m m' → Q none m') : hxn xs n yp_m16 0 [(0, .inr (.inl 31)), (1, .inl (Y : Int)), (2, .inl p)] [] m Q := by
  refine hx_dn (hr31_16_0 (fun _ => ?_) (fun c => absurd ((cY_iff hB hY).mpr ht) c))
  rw [Int.toNat_natCast]
  refine cd31_18 hY (sU_own (b := 31) hY hB) (by rw [su_ne (by omega)]; exact ht) (fun m1 h1 f1 => ?_)
  have f0 : bFr 31 m m1 := bFr_t (bFr_u (by decide)) f1
  have em : m1 42 Y = s (400 + Y) := by
    rw [sB31_many h1 Y hY]
    unfold sPwn
    rw [su_ne (by omega), su_ne (by omega), su_ne (by omega), su_ne (by omega)]
  unfold sGo at h
  refine hx_dn (hr31_16_21 (fun c => ?_) (fun c1 c2 => ?_) (fun c1 c2 => ?_))
  · rw [Int.toNat_natCast, em] at c
    exact absurd c (by omega)
  · rw [Int.toNat_natCast, em] at c1 c2
    rw [if_neg (by omega)] at h
    rw [Int.toNat_natCast, em]
    have ei : (gx_w ((gx_w ((Y : Int) * 16)) + s (400 + Y))).toNat = 16 * Y + (s (400 + Y)).toNat := by
      rw [gx_w_id (x := (Y : Int) * 16) (by omega) (by omega), gx_w_id (by omega) (by omega)]
      omega
    rw [ei]
    exact h _ (sU_many (b := 31) hY (sU_hand (b := 31) (by omega) h1)) (bFr_t f0 (bFr_t (bFr_u (by decide)) (bFr_u (by decide))))
  · rw [Int.toNat_natCast, em] at c1 c2
    rw [if_pos (by omega)] at h
    exact h m1 h1 f0
theorem cd31_69 {P : Nat} (hP : aPers s (P : Int)) (hc : 0 ≤ s (1120 + P) ∧ s (1120 + P) ≤ 99999) (hz : 0 ≤ z ∧ z ≤ 99999) (hB : sBk 31 s m) (h : ∀ m', sBk 31 (su s (1120 + P) (cl99 (s (1120 + P) + z))) m' → bFr 31 m m' → Q none m') : hxn xs n yp_m69 0 [(0, .inr (.inl 31)), (1, .inl (P : Int)), (2, .inl z)] [] m Q := by
  have p8 : P < 8 := by have := hP.2.1; omega
  refine hx_dn (hr31_69_0 (fun _ => ?_) (fun c => absurd ((cP_iff hB).mpr hP) c))
  rw [Int.toNat_natCast, sB31_coin hB P p8, gx_w_id (by omega) (by omega)]
  exact h _ (sU_coin (b := 31) p8 hB) (bFr_u (by decide))
theorem cd31_68 {P R : Nat} (hP : aPers s (P : Int)) (hR : aPers s (R : Int)) (hne : P ≠ R) (hs : sOK s) (hz : 0 ≤ z ∧ z ≤ 99999) (hB : sBk 31 s m) (h : ∀ m', sBk 31 (sPay s P R z) m' → bFr 31 m m' → Q none m') : hxn xs n yp_m68 0 [(0, .inr (.inl 31)), (1, .inl (P : Int)), (2, .inl (R : Int)), (3, .inl z)] [] m Q := by
  have p8 : P < 8 := by have := hP.2.1; omega
  have r8 : R < 8 := by have := hR.2.1; omega
  have k1 := hs.coin P p8
  have k2 := hs.coin R r8
  refine hx_dn (hr31_68_0 (fun _ => ?_) (fun c => absurd ((cP_iff hB).mpr hP) c))
  rw [Int.toNat_natCast, sB31_coin hB P p8, gx_w_id (by omega) (by omega)]
  have e : su s (1120 + P) (s (1120 + P) - z) (1120 + R) = s (1120 + R) := su_ne (by omega)
  refine cd31_69 (s := su s (1120 + P) (s (1120 + P) - z)) ((aPers_su (by omega)).mpr hR) (by rw [e]; exact k2) hz (sU_coin (b := 31) p8 hB) (fun m1 h1 f1 => ?_)
  rw [e] at h1
  exact hx_dn (hr31_68_25 (h m1 h1 (bFr_t (bFr_u (by decide)) f1)))
variable {A : List hAct} {i : Nat} {a : hAct} {W : (Int → Int) → Int → Option Int}
theorem cd31_67 (hA : cAc A m) (hi : A[i]? = some a) (h16 : A.length ≤ 16) (ha : aOK a) (hs : sOK s) (hB : sBk 31 s m) (hc : dCan W s a) (h : ∀ m', sBk 31 (dDo s a) m' → bFr 31 m m' → Q none m') : hxn xs n yp_m67 0 [(0, .inr (.inl 61)), (1, .inr (.inl 31)), (2, .inl (i : Int))] [] m Q := by
  have hlt := lg_lt hi
  obtain ⟨v1, v2, v3, v4, v5⟩ := hA.2 i a hi
  obtain ⟨a1, a2, a3, a4, a5, a6⟩ := ha
  obtain ⟨c1, c2, c3, c4, c5⟩ := hc
  unfold dDo at h
  refine hx_dn (hr31_67_0 (fun c => absurd c (by omega)) (fun _ c => absurd c (by omega)) (fun _ _ _ e => ?_) (fun _ _ _ e => ?_) (fun _ _ c => ?_))
  · rw [Int.toNat_natCast, v3] at e
    rw [if_neg e] at h
    rcases c5 with ⟨e', -⟩ | ⟨-, c6, c7, -⟩
    · exact absurd e' e
    rw [Int.toNat_natCast, v1, v2, v4, v5]
    refine cd31_68 (z := (a.2.2.2.2 : Int)) c3 c2 (fun q => a4 q.symm) hs (by omega) hB (fun m1 h1 f1 => ?_)
    have w3 : m1 64 i = a.2.2.1 := by rw [f1 64 (by decide)]; exact v3
    have w5 : m1 66 i = (a.2.2.2.2 : Int) := by rw [f1 66 (by decide)]; exact v5
    have hm : 0 ≤ sPay s a.2.2.2.1 a.2.1 (a.2.2.2.2 : Int) (400 + a.1) ∧ sPay s a.2.2.2.1 a.2.1 (a.2.2.2.2 : Int) (400 + a.1) ≤ 16 := by
      rw [sPay_y (by omega)]
      exact hs.many a.1 a1
    have ht : sPay s a.2.2.2.1 a.2.1 (a.2.2.2.2 : Int) (440 + a.1) = 1 := by
      rw [sPay_y (by omega)]
      exact c1
    refine hx_dn (hr31_67_92 (fun e2 => ?_) (fun e2 => ?_))
    · rw [Int.toNat_natCast, w3] at e2
      rw [if_neg e2] at h
      exact cd31_16 a1 hm h1 ht (fun m2 h2 f2 => hx_dn (hr31_67_126 (h m2 h2 (bFr_t f1 f2))))
    · rw [Int.toNat_natCast, w3] at e2
      rw [if_pos e2] at h
      rw [Int.toNat_natCast, w5]
      exact cd31_19 a1 h1 ht (fun m2 h2 f2 => hx_dn (hr31_67_116 (h m2 h2 (bFr_t f1 f2))))
  · rw [Int.toNat_natCast, v3] at e
    rw [if_pos e] at h
    rcases c5 with ⟨-, c6, c7⟩ | ⟨e', -⟩
    case inr => exact absurd e e'
    rw [Int.toNat_natCast, v1, v2, v4, Int.toNat_natCast, sB31_due hB a.1 a1]
    have hd := hs.due a.1 a1
    refine cd31_68 c2 c3 a4 hs hd hB (fun m1 h1 f1 => ?_)
    have ht : sPay s a.2.1 a.2.2.2.1 (s (360 + a.1)) (440 + a.1) = 1 := by
      rw [sPay_y (by omega)]
      exact c1
    refine hx_dn (hr31_67_72 ?_)
    exact cd31_18 a1 h1 ht (fun m2 h2 f2 => hx_dn (hr31_67_77 (h m2 h2 (bFr_t f1 f2))))
  · rw [Int.toNat_natCast, v1] at c
    exact absurd ((cY_iff hB a1).mpr c1) c
theorem cd31_54 (hL : lawR xs W m) (hA : cAc A m) (hi : A[i]? = some a) (h16 : A.length ≤ 16) (ha : aOK a) (hs : sOK s) (hB : sBk 31 s m) (h1 : dCan W s a → ∀ m', cLf m m' → Q (some (.inl 1)) m') (h0 : ¬ dCan W s a → ∀ m', cLf m m' → Q (some (.inl 0)) m') : hxn xs n yp_m54 0 [(0, .inr (.inl 61)), (1, .inr (.inl 31)), (2, .inr (.inl 44)), (3, .inl (i : Int))] [] m Q := by
  have hlt := lg_lt hi
  have hn := hA.1
  obtain ⟨v1, v2, v3, v4, v5⟩ := hA.2 i a hi
  obtain ⟨a1, a2, a3, a4, a5, a6⟩ := ha
  have e1 := sB31_own hB a.1 a1
  have rr : cLf m m := fun _ _ _ _ => rfl
  have no : ∀ {P : Prop}, P → (dCan W s a → ¬ P) → Q (some (.inl 0)) m := fun hP hh => h0 (fun q => hh q hP) m rr
  refine hx_dn (hr31_54_0 (fun c => absurd c (by omega)) (fun _ c => absurd c (by omega)) ?_ ?_ ?_ ?_ ?_ ?_ ?_ ?_ ?_ ?_ (fun _ _ c => absurd c (by omega)))
  all_goals rw [Int.toNat_natCast, v1]
  · intro _ _ _ cy _ _ _ d1 d2
    rw [v3] at d1
    rw [Int.toNat_natCast, sB31_hold hB a.1 a1 ((cY_iff hB a1).mp cy)] at d2
    exact no d2 (fun q hd => q.2.2.2.2.elim (fun r => d1 r.1) (fun r => hd r.2.1))
  · intro _ _ _ cy _ _ _ d1 d2 d3
    rw [v3] at d1
    rw [v4, v5, Int.toNat_natCast, sB31_coin hB _ a3] at d3
    exact no d3 (fun q hd => q.2.2.2.2.elim (fun r => d1 r.1) (fun r => by have := r.2.2.1; omega))
  · intro _ _ _ cy c2 c3 c4 d1 d2 d3
    rw [v3] at d1
    have ht := (cY_iff hB a1).mp cy
    rw [v2] at c2
    rw [v4] at c3
    rw [v2, Int.toNat_natCast, e1] at c4
    rw [Int.toNat_natCast, sB31_hold hB a.1 a1 ht] at d2
    rw [v4, v5, Int.toNat_natCast, sB31_coin hB _ a3] at d3
    rw [v4, v5]
    refine cForb (.inr rfl) hL hs hB a1 (by omega) (fun m1 f1 => ?_)
    cases hW : (W (env1 s a.1 (a.2.2.2.1 : Int) (a.2.2.2.2 : Int)) 110).isSome with
    | false => exact hx_dn (hr31_54_174 (s0 := 0) (fun c => absurd rfl c) (fun _ => h1 ⟨ht, (cP_iff hB).mp c2, (cP_iff hB).mp c3, c4, .inr ⟨d1, d2, d3, hW⟩⟩ m1 f1))
    | true => exact hx_dn (hr31_54_174 (s0 := 1) (fun _ => h0 (fun q => q.2.2.2.2.elim (fun r => d1 r.1) (fun r => by have := r.2.2.2; rw [hW] at this; cases this)) m1 f1) (fun c => absurd c (by decide)))
  · intro _ _ _ cy _ _ _ d1 d2
    rw [v3] at d1
    rw [v4, Int.toNat_natCast, sB31_hold hB a.1 a1 ((cY_iff hB a1).mp cy)] at d2
    exact no d2 (fun q hd => q.2.2.2.2.elim (fun r => hd r.2.1) (fun r => r.1 d1))
  · intro _ _ _ cy _ _ _ d1 d2 d3
    rw [v3] at d1
    rw [v2, Int.toNat_natCast, Int.toNat_natCast, sB31_coin hB _ a2, sB31_due hB a.1 a1] at d3
    exact no d3 (fun q hd => q.2.2.2.2.elim (fun r => by have := r.2.2; omega) (fun r => r.1 d1))
  · intro _ _ _ cy c2 c3 c4 d1 d2 d3
    rw [v3] at d1
    have ht := (cY_iff hB a1).mp cy
    rw [v2] at c2
    rw [v4] at c3
    rw [v2, Int.toNat_natCast, e1] at c4
    rw [v4, Int.toNat_natCast, sB31_hold hB a.1 a1 ht] at d2
    rw [v2, Int.toNat_natCast, Int.toNat_natCast, sB31_coin hB _ a2, sB31_due hB a.1 a1] at d3
    exact h1 ⟨ht, (cP_iff hB).mp c2, (cP_iff hB).mp c3, c4, .inl ⟨d1, d2, d3⟩⟩ m rr
  · intro _ _ _ _ _ _ d
    rw [v2, Int.toNat_natCast, e1] at d
    exact no d (fun q hd => hd q.2.2.2.1)
  · intro _ _ _ _ _ d
    rw [v4] at d
    exact no d (fun q hd => hd ((cP_iff hB).mpr q.2.2.1))
  · intro _ _ _ _ d
    rw [v2] at d
    exact no d (fun q hd => hd ((cP_iff hB).mpr q.2.1))
  · intro _ _ _ d
    exact no d (fun q hd => hd ((cY_iff hB a1).mpr q.1))
theorem cAc_f31 {m' : gx_M} (h : cDf 31 m m') (hA : cAc A m) : cAc A m' := by
  refine ⟨by rw [h 61 5 (by decide) (by decide) (by omega)]; exact hA.1, fun i a hi => ?_⟩
  rw [h 62 i (by decide) (by decide) (by omega), h 63 i (by decide) (by decide) (by omega), h 64 i (by decide) (by decide) (by omega), h 65 i (by decide) (by decide) (by omega), h 66 i (by decide) (by decide) (by omega)]
  exact hA.2 i a hi
theorem cDf_L31 {m' : gx_M} (h : cDf 31 m m') : hAg hPL m m' := by
  intro q hq k h1 h2
  refine h q.1 k ?_ ?_ ?_
  · simp only [hPL, List.mem_cons, List.not_mem_nil, or_false] at hq
    rcases hq with rfl | rfl | rfl | rfl | rfl | rfl | rfl | rfl | rfl | rfl | rfl | rfl | rfl <;> decide
  · simp only [hPL, List.mem_cons, List.not_mem_nil, or_false] at hq
    rcases hq with rfl | rfl | rfl | rfl | rfl | rfl | rfl | rfl | rfl | rfl | rfl | rfl | rfl <;> decide
  · simp only [hPL, List.mem_cons, List.not_mem_nil, or_false] at hq
    rcases hq with rfl | rfl | rfl | rfl | rfl | rfl | rfl | rfl | rfl | rfl | rfl | rfl | rfl <;> dsimp only at h1 h2 ⊢ <;> omega
theorem cd31_53 (hL : lawR xs W m) (hA : cAc A m) (hi : A[i]? = some a) (h16 : A.length ≤ 16) (ha : aOK a) (hs : sOK s) (hB : sBk 31 s m) (h1 : dCan W s a → ∀ m', cDf 31 m m' → sBk 31 (dDo s a) m' → Q (some (.inl 1)) m') (h0 : ¬ dCan W s a → ∀ m', cDf 31 m m' → sBk 31 s m' → Q (some (.inl 0)) m') : hxn xs n yp_m53 0 [(0, .inr (.inl 61)), (1, .inr (.inl 31)), (2, .inr (.inl 44)), (3, .inl (i : Int))] [] m Q := by
  refine hx_dn (hr31_53_0 (cd31_54 hL hA hi h16 ha hs hB (fun hc m1 f1 => ?_) (fun hc m1 f1 => ?_)))
  · refine hx_dn (hr31_53_7 (s0 := 1) (fun _ => ?_) (fun c => absurd c (by decide)))
    exact cd31_67 (cAc_f31 (cDf_f f1) hA) hi h16 ha hs (cLf_b (.inr rfl) f1 hB) hc (fun m2 h2 f2 => hx_dn (hr31_53_18 (h1 hc m2 (cDf_t (cDf_f f1) (cDf_b f2)) h2)))
  · exact hx_dn (hr31_53_7 (s0 := 0) (fun c => absurd rfl c) (fun _ => h0 hc m1 (cDf_f f1) (cLf_b (.inr rfl) f1 hB)))
end AC31
