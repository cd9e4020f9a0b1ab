/-! the law as a whole: what is asked of it, as a function of what letters stand for -/
def lFst (P : Nat → Bool) : Nat → Nat → Option Nat
  | _, 0 => none
  | k, d + 1 => if P k = true then some k else lFst P (k + 1) d
noncomputable def lSem (xs : List Int32) (K : hCode) (CL : List hCl) (rc re : (Int → Int) → Nat → Option Int) : Prop := ∀ (env : Int → Int) (i : Nat) (c : hCl), CL[i]? = some c → is01 (rc env i) ∧ lEv xs K env c.2.2.1 c.2.2.2 16 (rc env i) ∧ (c.1 ≠ 110 → lEv xs K env c.2.1 c.2.2.1 16 (re env i))
def lHol (CL : List hCl) (rc : (Int → Int) → Nat → Option Int) (env : Int → Int) (kind : Int) (i : Nat) : Bool := match CL[i]? with
  | some c => decide (c.1 = kind) && decide (rc env i = some 1)
  | none => false
def lRes (CL : List hCl) (rc re : (Int → Int) → Nat → Option Int) (env : Int → Int) (kind : Int) : Option Int := match lFst (lHol CL rc env kind) 0 CL.length with
  | some i => some ((re env i).getD 0)
  | none => none
def lClip (high : Int) : Option Int → Int
  | some v => if v < 0 then 0 else if high < v then high else v
  | none => 0
def lOrd (CL : List hCl) : Prop := CL.length ≤ 16 ∧ ∀ (i : Nat) (c : hCl), CL[i]? = some c → isKd c.1 ∧ c.2.1 ≤ c.2.2.1 ∧ c.2.2.1 ≤ c.2.2.2 ∧ c.2.2.2 ≤ 240
/-- the law that stands, by both; W: what a clause of a letter that holds comes to -/
noncomputable def lawR (xs : List Int32) (W : (Int → Int) → Int → Option Int) (m : gx_M) : Prop := ∃ K CL rc re, K.length ≤ 240 ∧ lOrd CL ∧ cLw K CL m ∧ rLw K CL m ∧ lSem xs K CL rc re ∧ W = lRes CL rc re
def hPL : List (Nat × Nat × Nat) := [(44, 7, 8), (45, 0, 240), (46, 0, 240), (47, 0, 16), (48, 0, 16), (49, 0, 16), (50, 0, 16), (86, 13, 14), (97, 0, 260), (98, 0, 16), (99, 0, 16), (100, 0, 16), (101, 0, 16)]
theorem lk_240 {K : hCode} {i : Nat} {c : Int × Int} (hK : K.length ≤ 240) (h : K[i]? = some c) : i < 240 := Nat.lt_of_lt_of_le (lk_lt h) hK
theorem lg_16 {CL : List hCl} {i : Nat} {c : hCl} (hK : CL.length ≤ 16) (h : CL[i]? = some c) : i < 16 := Nat.lt_of_lt_of_le (lg_lt h) hK
theorem cLw_c {K : hCode} {CL : List hCl} {m m' : gx_M} (h : hAg hPL m m') (h1 : K.length ≤ 240) (h2 : CL.length ≤ 16) (hL : cLw K CL m) : cLw K CL m' := by
  obtain ⟨a, b, c⟩ := hL
  refine ⟨?_, fun i q hq => ?_, fun i q hq => ?_⟩
  · rw [h.at 44 7 8 (by decide) (by omega) (by omega)]
    exact a
  · have := lk_240 h1 hq
    rw [h.at 45 0 240 (by decide) (by omega) (by omega), h.at 46 0 240 (by decide) (by omega) (by omega)]
    exact b i q hq
  · have := lg_16 h2 hq
    rw [h.at 47 0 16 (by decide) (by omega) (by omega), h.at 48 0 16 (by decide) (by omega) (by omega), h.at 49 0 16 (by decide) (by omega) (by omega), h.at 50 0 16 (by decide) (by omega) (by omega)]
    exact c i q hq
theorem rLw_c {K : hCode} {CL : List hCl} {m m' : gx_M} (h : hAg hPL m m') (h1 : K.length ≤ 240) (h2 : CL.length ≤ 16) (hL : rLw K CL m) : rLw K CL m' := by
  obtain ⟨a, b, c⟩ := hL
  refine ⟨?_, fun i q hq => ?_, fun i q hq => ?_⟩
  · rw [h.at 86 13 14 (by decide) (by omega) (by omega)]
    exact a
  · have := lk_240 h1 hq
    rw [h.at 97 0 260 (by decide) (by omega) (by omega)]
    exact b i q hq
  · have := lg_16 h2 hq
    rw [h.at 98 0 16 (by decide) (by omega) (by omega), h.at 99 0 16 (by decide) (by omega) (by omega), h.at 100 0 16 (by decide) (by omega) (by omega), h.at 101 0 16 (by decide) (by omega) (by omega)]
    exact c i q hq
theorem lawR_c {xs : List Int32} {W : (Int → Int) → Int → Option Int} {m m' : gx_M} (h : hAg hPL m m') (hL : lawR xs W m) : lawR xs W m' := by
  obtain ⟨K, CL, rc, re, h1, h2, h3, h4, h5, h6⟩ := hL
  exact ⟨K, CL, rc, re, h1, h2, cLw_c h h1 h2.1 h3, rLw_c h h1 h2.1 h4, h5, h6⟩
/-! from the text to what it means -/
theorem lCl_sem {T : Nat → Int} {L p p' : Nat} {K K' Kf : hCode} {c : hCl} {xs : List Int32} {env : Int → Int} (h : lCl T L p K p' K' c) (hK : K'.length ≤ 240) (hA : ∀ i, K.length ≤ i → i < K'.length → Kf[i]? = K'[i]?) : (isKd c.1 ∧ c.2.1 ≤ c.2.2.1 ∧ c.2.2.1 ≤ c.2.2.2 ∧ c.2.2.2 ≤ 240) ∧ ∃ rc re, is01 rc ∧ lEv xs Kf env c.2.2.1 c.2.2.2 16 rc ∧ (c.1 ≠ 110 → lEv xs Kf env c.2.1 c.2.2.1 16 re) := by
  obtain ⟨hk, p1, K1, p2, hh, -, hd, -, -, rfl⟩ := h
  have g2 := lD_grow hd
  have pr := lD_pre hd
  obtain ⟨rc, z, e⟩ := lEv_of (xs := xs) (env := env) (Kf := Kf) hd (fun i ha hb => hA i (by
    rcases hh with ⟨-, -, rfl⟩ | ⟨-, hd1, -⟩
    · exact ha
    · have := lD_grow hd1
      omega) hb)
  have hle : K.length ≤ K1.length := by
    rcases hh with ⟨-, -, rfl⟩ | ⟨-, hd1, -⟩
    · exact Nat.le_refl _
    · exact (lD_grow hd1).2.2
  refine ⟨⟨hk, hle, g2.2.2, hK⟩, ?_⟩
  have e16 := lEv_up (h := 16) (by decide) e
  rcases hh with ⟨hn, -, rfl⟩ | ⟨hn, hd1, -⟩
  · exact ⟨rc, none, z (by decide), e16, fun c => absurd hn c⟩
  · obtain ⟨re, -, e1⟩ := lEv_of (xs := xs) (env := env) (Kf := Kf) hd1 (fun i ha hb => by rw [hA i ha (by have := g2.2.2; omega), pr i hb])
    exact ⟨rc, re, z (by decide), e16, fun _ => lEv_up (by decide) e1⟩
theorem lLs_sem {T : Nat → Int} {L : Nat} {xs : List Int32} {env : Int → Int} (hL : L ≤ 240) : ∀ {j p : Nat} {K : hCode} {CL : List hCl}, lLs T L j p K CL → p ≤ L → ∀ Kf : hCode, (∀ i, i < K.length → Kf[i]? = K[i]?) → ∀ (i : Nat) (c : hCl), CL[i]? = some c → (isKd c.1 ∧ c.2.1 ≤ c.2.2.1 ∧ c.2.2.1 ≤ c.2.2.2 ∧ c.2.2.2 ≤ 240) ∧ ∃ rc re, is01 rc ∧ lEv xs Kf env c.2.2.1 c.2.2.2 16 rc ∧ (c.1 ≠ 110 → lEv xs Kf env c.2.1 c.2.2.1 16 re)
  | 0, p, K, CL, h, _, Kf, _, i, c, hc => by
    rw [h.2.2] at hc
    cases hc
  | j + 1, p, K, CL, h, hp, Kf, hA, i, c, hc => by
    have hkl := lLs_kl h
    obtain ⟨p0, K0, CL0, ps, c0, h1, h2, h3, h4, rfl⟩ := h
    have g := lCl_gr h4
    have hK0 : K0.length ≤ K.length ∧ ∀ i, i < K0.length → K[i]? = K0[i]? := by
      obtain ⟨-, p1, K1, p2, hh, -, hd, -, -, -⟩ := h4
      have g2 := lD_grow hd
      have pr := lD_pre hd
      rcases hh with ⟨-, -, rfl⟩ | ⟨-, hd1, -⟩
      · exact ⟨g2.2.2, pr⟩
      · have g1 := lD_grow hd1
        have pr1 := lD_pre hd1
        exact ⟨by omega, fun i hi => by rw [pr i (by omega), pr1 i hi]⟩
    rcases lg_app hc with hc | ⟨-, rfl⟩
    · refine lLs_sem hL h1 ?_ Kf (fun i hi => ?_) i c hc
      · rcases h2 with ⟨-, rfl⟩ | ⟨-, -, rfl⟩ <;> omega
      · rw [hA i (by omega), hK0.2 i hi]
    · exact lCl_sem h4 (by omega) (fun i _ hi => hA i hi)
theorem lOk_sem {T : Nat → Int} {L : Nat} {K : hCode} {CL : List hCl} (hL : L ≤ 240) (h : lOk T L K CL) (xs : List Int32) : K.length ≤ 240 ∧ lOrd CL ∧ ∃ rc re, lSem xs K CL rc re := by
  obtain ⟨j, hj⟩ := h
  have hkl := lLs_kl hj
  refine ⟨by omega, ⟨by rw [lLs_len hj]; exact lLs_16 hj, fun i c hc => (lLs_sem (xs := []) (env := fun _ => 0) hL hj (Nat.le_refl _) K (fun _ _ => rfl) i c hc).1⟩, ?_⟩
  have H : ∀ q : (Int → Int) × Nat, ∃ r : Option Int × Option Int, ∀ c : hCl, CL[q.2]? = some c → is01 r.1 ∧ lEv xs K q.1 c.2.2.1 c.2.2.2 16 r.1 ∧ (c.1 ≠ 110 → lEv xs K q.1 c.2.1 c.2.2.1 16 r.2) := fun q => by
    cases hc : CL[q.2]? with
    | none => exact ⟨(none, none), fun c e => by cases e⟩
    | some c =>
      obtain ⟨-, rc, re, a, b, d⟩ := lLs_sem (xs := xs) (env := q.1) hL hj (Nat.le_refl _) K (fun _ _ => rfl) q.2 c hc
      exact ⟨(rc, re), fun c' e => by cases e; exact ⟨a, b, d⟩⟩
  obtain ⟨f, hf⟩ := Classical.axiomOfChoice H
  exact ⟨fun env i => (f (env, i)).1, fun env i => (f (env, i)).2, fun env i c hc => hf (env, i) c hc⟩
/-! runs of code, by both -/
section RUN
variable {xs : List Int32} {n bk a b : Nat} {Q : hQ} {m0 : gx_M} {r : Option Int}
theorem cRun (h : lEvC bk xs m0 a b 16 r) (hb : b ≤ 240) (hQ : ∀ m', (∀ c', c' ≠ 51 → m' c' = m0 c') → Q (some (.inl (r.getD 0))) m') {m : gx_M} (hm : ∀ c', c' ≠ 51 → m c' = m0 c') : hxn xs n yp_m58 0 [(0, .inr (.inl 44)), (1, .inr (.inl bk)), (2, .inl (a : Int)), (3, .inl (b : Int))] [] m Q := by
  refine hx_dn (hr58_0 ?_)
  have e : (if (0 : Int) < (a : Int) then (a : Int) else 0) = (a : Int) := by
    split <;> omega
  rw [e]
  refine h n b [] Q (Nat.le_refl _) hb (by decide) (fun c m' g => ?_) (fun v c => ?_) m ⟨hm, fun i v hv => by cases hv⟩
  · have := hQ m' g
    rw [c] at this
    exact this
  · refine ce_end (Nat.le_refl _) (fun m' g => ?_)
    have := hQ m' g
    rw [c] at this
    exact this
theorem rRun (h : lEvR xs m0 a b 16 r) (ha : a ≤ 240) (hb : b ≤ 240) (hQ : ∀ m', (∀ c', c' ≠ 102 → m' c' = m0 c') → Q (some (.inl (r.getD 0))) m') {m : gx_M} (hm : ∀ c', c' ≠ 102 → m c' = m0 c') : hxn xs n yp_m208 0 [(0, .inr (.inl 86)), (1, .inl (a : Int)), (2, .inl (b : Int))] [] m Q := by
  refine hx_dn (hr208_0 ?_)
  have e : gx_w (260 * (gx_w (Int.tdiv (a : Int) 260))) = 0 := by
    have e1 : Int.tdiv (a : Int) 260 = 0 := by
      rw [Int.tdiv_eq_ediv_of_nonneg (by omega)]
      omega
    rw [e1]
    rfl
  rw [e]
  refine h n b [] Q (Nat.le_refl _) hb (by decide) (fun c m' g => ?_) (fun v c => ?_) m ⟨hm, fun i v hv => by cases hv⟩
  · have := hQ m' g
    rw [c] at this
    exact this
  · refine re_end (Nat.le_refl _) (fun m' g => ?_)
    have := hQ m' g
    rw [c] at this
    exact this
end RUN
