/-! deals' text as the reference reads it -/
def rAc (A : List hAct) (m : gx_M) : Prop := m 86 32 = (A.length : Int) ∧ ∀ i a, A[i]? = some a → m 104 i = (a.1 : Int) ∧ m 105 i = (a.2.1 : Int) ∧ m 106 i = a.2.2.1 ∧ m 107 i = (a.2.2.2.1 : Int) ∧ m 108 i = (a.2.2.2.2 : Int)
def rF5 (m0 m : gx_M) : Prop := (∀ c, c ≠ 86 → m c = m0 c) ∧ ∀ k, k ≠ 5 → k ≠ 7 → k ≠ 8 → m 86 k = m0 86 k
def rFd (m0 m : gx_M) : Prop := (∀ c, c ≠ 86 → (c < 104 ∨ 108 < c) → m c = m0 c) ∧ ∀ k, k ≠ 4 → k ≠ 5 → k ≠ 6 → k ≠ 7 → k ≠ 8 → k ≠ 32 → m 86 k = m0 86 k
theorem rF5_d {m0 m : gx_M} (h : rF5 m0 m) : rFd m0 m := ⟨fun c a _ => h.1 c a, fun k _ b _ d e _ => h.2 k b d e⟩
theorem rFd_t {m m1 m2 : gx_M} (h : rFd m m1) (h' : rFd m1 m2) : rFd m m2 := ⟨fun c a b => (h'.1 c a b).trans (h.1 c a b), fun k a b c d e f => (h'.2 k a b c d e f).trans (h.2 k a b c d e f)⟩
theorem rF5_t {m m1 m2 : gx_M} (h : rF5 m m1) (h' : rF5 m1 m2) : rF5 m m2 := ⟨fun c a => (h'.1 c a).trans (h.1 c a), fun k a b c => (h'.2 k a b c).trans (h.2 k a b c)⟩
theorem rF5_r (m : gx_M) : rF5 m m := ⟨fun _ _ => rfl, fun _ _ _ _ => rfl⟩
theorem rAc_5 {A : List hAct} {m0 m : gx_M} (h : rF5 m0 m) (hA : rAc A m0) : rAc A m := by
  unfold rAc
  rw [h.2 32 (by decide) (by decide) (by decide), h.1 104 (by decide), h.1 105 (by decide), h.1 106 (by decide), h.1 107 (by decide), h.1 108 (by decide)]
  exact hA
section RT
variable {xs : List Int32} {n : Nat} {Q : hQ} {T : Nat → Int} {L p : Nat} {m : gx_M}
theorem rT_he (h : rTx T L p m) : aHere m = tx T L p := by
  obtain ⟨t1, t2, t3⟩ := h
  unfold aHere
  rw [t1, t2]
  by_cases c : (L : Int) ≤ (p : Int)
  · rw [if_pos c, tx_no (by omega)]
  · rw [if_neg c, Int.toNat_natCast, t3 p (by omega), tx_eq (by omega)]
theorem rT_st (h : rTx T L p m) (hL : p < 1000) : rTx T L (p + 1) (gx_u m 86 5 (gx_w (m 86 5 + 1))) ∧ rF5 m (gx_u m 86 5 (gx_w (m 86 5 + 1))) := by
  obtain ⟨t1, t2, t3⟩ := h
  refine ⟨⟨?_, ?_, fun k hk => ?_⟩, fun c hc => gx_u_off hc, fun k h5 _ _ => gx_u_ne (by omega)⟩
  · rw [gx_u_self, t1, ew_u (by omega)]
  · rw [gx_u_ne (by decide)]
    exact t2
  · rw [gx_u_ne (by omega)]
    exact t3 k hk
theorem rT172 {a : Int} (ha : 0 ≤ a ∧ a ≤ 9) (hp : p ≤ 1000) (h : ∀ m', m' 86 7 = lfl a p → rF5 m m' → Q (some (.inl 0)) m') : hxn xs n yp_m172 0 [(0, .inr (.inl 86)), (1, .inl a), (2, .inl (p : Int))] [] m Q := by
  refine hx_dn (hr172_0 (h _ ?_ ⟨fun c hc => gx_u_off hc, fun k _ h7 _ => gx_u_ne (by omega)⟩))
  rw [gx_u_self, gx_w_id (x := (-1000) * a) (by omega) (by omega), gx_w_id (by omega) (by omega)]
  rfl
theorem r193 {most : Nat} (hm : most ≤ 5) (hL : L ≤ 240) (hp : p ≤ L) (hS : rTx T L p m) (h1 : ndg T L p most ≠ 0 → ∀ m', rTx T L (p + ndg T L p most) m' → m' 86 8 = lnum T p (ndg T L p most) → rF5 m m' → Q (some (.inl 1)) m') (h0 : ndg T L p most = 0 → ∀ m', m' 86 7 = lfl 1 p → rF5 m m' → Q (some (.inl 0)) m') : hxn xs n yp_m193 0 [(0, .inr (.inl 86)), (1, .inl (most : Int))] [] m Q := by
  have hl : ∀ e j : Nat, j + e = most → ∀ m', rTx T L (p + j) m' → m' 86 8 = lnum T p j → rF5 m m' → (∀ i, i < j → isDg (tx T L (p + i))) → hxn xs n yp_m193 10 [(0, .inr (.inl 86)), (1, .inl (most : Int)), (2, .inl (p : Int))] [] m' Q := by
    intro e
    induction e with
    | zero =>
      intro j hj m' hS' h8 hf hd
      have e : j = most := by omega
      have en := ndg_of (most := most) (by omega) hd (.inl e)
      have hw : gx_w ((p : Int) + (most : Int)) = ((p + j : Nat) : Int) := by
        rw [gx_w_id (by omega) (by omega)]
        omega
      have fin : (p : Int) < m' 86 5 → Q (some (.inl 1)) m' := fun c => by
        rw [hS'.1] at c
        exact h1 (by omega) m' (by rw [en]; exact hS') (by rw [en]; exact h8) hf
      have bad : m' 86 5 ≤ (p : Int) → hxn xs n yp_m172 0 [(0, .inr (.inl 86)), (1, .inl 1), (2, .inl (m' 86 5))] [] m' (fun r m' => hxn xs n yp_m193 76 [] (hrs r ++ []) m' Q) := fun c => by
        rw [hS'.1] at c ⊢
        have ej : j = 0 := by omega
        subst ej
        exact rT172 (p := p + 0) (by decide) (by omega) (fun m2 h7 f2 => hx_dn (hr193_76 (fun _ => h0 en m2 h7 (rF5_t hf f2)) (fun c => absurd rfl c)))
      refine hx_dn (hr193_10 (by rw [hS'.1]; omega) (fun _ _ c => fin c) (fun _ _ c => bad c) (fun _ c => ?_) (fun _ c => fin c) (fun _ c => bad c))
      rw [hw, hS'.1] at c
      exact absurd c (by omega)
    | succ e ih =>
      intro j hj m' hS' h8 hf hd
      have hw : gx_w ((p : Int) + (most : Int)) = ((p + most : Nat) : Int) := by
        rw [gx_w_id (by omega) (by omega)]
        omega
      have en : ¬ isDg (aHere m') → ndg T L p most = j := fun c => by
        rw [rT_he hS'] at c
        exact ndg_of (most := most) (by omega) hd (.inr c)
      refine hx_dn (hr193_10 (by rw [hS'.1]; omega) (fun _ c => ?_) (fun _ c => ?_) (fun a _ => ?_) (fun a c => ?_) (fun a c => ?_))
      · rw [hw, hS'.1] at c
        exact absurd c (by omega)
      · rw [hw, hS'.1] at c
        exact absurd c (by omega)
      · have a' := a
        rw [rT_he hS'] at a'
        have hlt := isDg_lt a'
        have hd2 : ∀ i, i < j + 1 → isDg (tx T L (p + i)) := fun i hi => by
          by_cases e : i = j
          · rw [e]
            exact a'
          · exact hd i (by omega)
        have b1 := lnum_bd (T := T) (L := L) (p := p) j hd
        have b2 := lpw_le (j := j) (by omega)
        have c2 : 48 ≤ T (p + j) ∧ T (p + j) ≤ 57 := by
          rw [tx_eq hlt] at a'
          exact a'
        have ev : gx_w (gx_w (gx_w (10 * m' 86 8) + aHere m') - 48) = lnum T p (j + 1) := by
          rw [h8, rT_he hS', tx_eq hlt, gx_w_id (x := 10 * lnum T p j) (by omega) (by omega), gx_w_id (x := 10 * lnum T p j + T (p + j)) (by omega) (by omega), gx_w_id (by omega) (by omega)]
          rfl
        rw [ev, hS'.1]
        refine ih (j + 1) (by omega) _ ⟨?_, ?_, fun k hk => ?_⟩ ?_ ⟨fun c hc => ?_, fun k k5 k7 k8 => ?_⟩ hd2
        · rw [gx_u_self]
          omega
        · rw [gx_u_ne (by decide), gx_u_ne (by decide)]
          exact hS'.2.1
        · rw [gx_u_ne (by omega), gx_u_ne (by omega)]
          exact hS'.2.2 k hk
        · rw [gx_u_ne (by decide), gx_u_self]
        · rw [gx_u_off hc, gx_u_off hc]
          exact hf.1 c hc
        · rw [gx_u_ne (by omega), gx_u_ne (by omega)]
          exact hf.2 k k5 k7 k8
      · have en := en a
        rw [hS'.1] at c
        exact h1 (by omega) m' (by rw [en]; exact hS') (by rw [en]; exact h8) hf
      · have en := en a
        rw [hS'.1] at c ⊢
        have ej : j = 0 := by omega
        subst ej
        exact rT172 (p := p + 0) (by decide) (by omega) (fun m2 h7 f2 => hx_dn (hr193_76 (fun _ => h0 en m2 h7 (rF5_t hf f2)) (fun c => absurd rfl c)))
  refine hx_dn (hr193_0 ?_)
  rw [hS.1]
  refine hl most 0 (Nat.zero_add _) _ ⟨?_, ?_, fun k hk => ?_⟩ ?_ ⟨fun c hc => gx_u_off hc, fun k _ _ k8 => gx_u_ne (by omega)⟩ (fun i hi => absurd hi (by omega))
  · rw [gx_u_ne (by decide)]
    exact hS.1
  · rw [gx_u_ne (by decide)]
    exact hS.2.1
  · rw [gx_u_ne (by omega)]
    exact hS.2.2 k hk
  · rw [gx_u_self]
    rfl
/-! an act -/
def rPC (T : Nat → Int) (L : Nat) (A : List hAct) (m0 : gx_M) (r : hRd) (v : Int) (m : gx_M) : Prop := rFd m0 m ∧ match r with
  | (some (p', a), _) => v = 1 ∧ rTx T L p' m ∧ rAc (A ++ [a]) m
  | (none, f) => v = 0 ∧ m 86 7 = f
theorem rAc_app {A : List hAct} {a : hAct} {M : gx_M} (hA : ∀ i b, A[i]? = some b → M 104 i = (b.1 : Int) ∧ M 105 i = (b.2.1 : Int) ∧ M 106 i = b.2.2.1 ∧ M 107 i = (b.2.2.2.1 : Int) ∧ M 108 i = (b.2.2.2.2 : Int)) (h5 : M 86 32 = (A.length : Int) + 1) (e : M 104 A.length = (a.1 : Int) ∧ M 105 A.length = (a.2.1 : Int) ∧ M 106 A.length = a.2.2.1 ∧ M 107 A.length = (a.2.2.2.1 : Int) ∧ M 108 A.length = (a.2.2.2.2 : Int)) : rAc (A ++ [a]) M := by
  refine ⟨by rw [List.length_append, List.length_singleton, h5]; rfl, fun i b hb => ?_⟩
  rcases lg_app hb with hb | ⟨rfl, rfl⟩
  · exact hA i b hb
  · exact e
variable {A : List hAct} {m0 : gx_M} {y f t : Nat} {sg : Int}
/-- one write at the row's end -/
theorem rw_end {c : Nat} {v : Int} (hc : 104 ≤ c ∧ c ≤ 108) (hS : rTx T L p m) (hA : rAc A m) (hf : rFd m0 m) : rTx T L p (gx_u m c A.length v) ∧ rAc A (gx_u m c A.length v) ∧ rFd m0 (gx_u m c A.length v) := by
  refine ⟨?_, ⟨?_, fun i a ha => ?_⟩, fun c' h1 h3 => ?_, fun k a1 a2 a3 a4 a5 a6 => ?_⟩
  · unfold rTx
    rw [gx_u_off (by omega), gx_u_off (by omega)]
    exact hS
  · rw [gx_u_ne (by omega)]
    exact hA.1
  · have hlt := lg_lt ha
    rw [gx_u_ne (by omega), gx_u_ne (by omega), gx_u_ne (by omega), gx_u_ne (by omega), gx_u_ne (by omega)]
    exact hA.2 i a ha
  · rw [gx_u_off (by omega)]
    exact hf.1 c' h1 h3
  · rw [gx_u_ne (by omega)]
    exact hf.2 k a1 a2 a3 a4 a5 a6
theorem rA_end {a : hAct} {M : gx_M} {v : Int} (hv : v = (a.2.2.2.2 : Int)) (h16 : A.length ≤ 16) (hS : rTx T L p M) (hA : rAc A M) (hf : rFd m0 M) (e : M 104 A.length = (a.1 : Int) ∧ M 105 A.length = (a.2.1 : Int) ∧ M 106 A.length = a.2.2.1 ∧ M 107 A.length = (a.2.2.2.1 : Int)) : rFd m0 (gx_u (gx_u M 108 A.length v) 86 32 (gx_w (M 86 32 + 1))) ∧ rTx T L p (gx_u (gx_u M 108 A.length v) 86 32 (gx_w (M 86 32 + 1))) ∧ rAc (A ++ [a]) (gx_u (gx_u M 108 A.length v) 86 32 (gx_w (M 86 32 + 1))) := by
  obtain ⟨w1, w2, w3⟩ := rw_end (c := 108) (v := v) (by decide) hS hA hf
  refine ⟨⟨fun c a1 a2 => ?_, fun k a1 a2 a3 a4 a5 a6 => ?_⟩, ⟨?_, ?_, fun k hk => ?_⟩, rAc_app (fun i b hb => ?_) ?_ ?_⟩
  · rw [gx_u_off a1]
    exact w3.1 c a1 a2
  · rw [gx_u_ne (by omega)]
    exact w3.2 k a1 a2 a3 a4 a5 a6
  · rw [gx_u_ne (by decide)]
    exact w1.1
  · rw [gx_u_ne (by decide)]
    exact w1.2.1
  · rw [gx_u_ne (by omega)]
    exact w1.2.2 k hk
  · rw [gx_u_off (c := 86) (by decide), gx_u_off (c := 86) (by decide), gx_u_off (c := 86) (by decide), gx_u_off (c := 86) (by decide), gx_u_off (c := 86) (by decide)]
    exact w2.2 i b hb
  · rw [gx_u_self, hA.1, ew_u (by omega)]
    rfl
  · rw [gx_u_off (c := 86) (by decide), gx_u_off (c := 86) (by decide), gx_u_off (c := 86) (by decide), gx_u_off (c := 86) (by decide), gx_u_off (c := 86) (by decide), gx_u_ne (by omega), gx_u_ne (by omega), gx_u_ne (by omega), gx_u_ne (by omega), gx_u_self]
    exact ⟨e.1, e.2.1, e.2.2.1, e.2.2.2, hv⟩
theorem r192_207 {b : Int} (hb : b = tx T L p) (hpn : 97 ≤ tx T L p ∧ tx T L p ≤ 104) (hL : L ≤ 240) (hp : p < L) (hS : rTx T L p m) (hA : rAc A m) (h16 : A.length < 16) (hf : rFd m0 m) (e : m 104 A.length = (y : Int) ∧ m 105 A.length = (f : Int) ∧ m 106 A.length = sg) (hQ : ∀ v m', rPC T L A m0 (dS3 T L p y f sg) v m' → Q (some (.inl v)) m') : hxn xs n yp_m192 207 [(0, .inr (.inl 86)), (2, .inl sg)] [.inl b, .inl (A.length : Int), .inr (.inl 107)] m Q := by
  subst hb
  have hi := hA.1
  have hw97 : gx_w (tx T L p - 97) = tx T L p - 97 := gx_w_id (by omega) (by omega)
  obtain ⟨w1, w2, w3⟩ := rw_end (c := 107) (v := tx T L p - 97) (by decide) hS hA hf
  have er : (gx_u m 107 A.length (tx T L p - 97)) 86 5 = m 86 5 := gx_u_ne (by omega)
  obtain ⟨v1, v2⟩ := rT_st w1 (by omega)
  rw [er] at v1 v2
  have vA := rAc_5 v2 w2
  have vF := rFd_t w3 (rF5_d v2)
  obtain ⟨u1, u2, u3⟩ := rw_end (c := 108) (v := 0) (by decide) v1 vA vF
  have hR : tx T L p - 97 ≠ (f : Int) → dS3 T L p y f sg = dS4 T L (p + 1) y f sg (tx T L p - 97).toNat := fun c => by
    unfold dS3
    rw [if_pos hpn, if_neg c]
  have eM : ∀ M : gx_M, (∀ c, c ≠ 86 → c ≠ 108 → M c = (gx_u m 107 A.length (tx T L p - 97)) c) → M 104 A.length = (y : Int) ∧ M 105 A.length = (f : Int) ∧ M 106 A.length = sg ∧ M 107 A.length = ((tx T L p - 97).toNat : Int) := fun M hM => by
    rw [hM 104 (by decide) (by decide), hM 105 (by decide) (by decide), hM 106 (by decide) (by decide), hM 107 (by decide) (by decide), gx_u_ne (by omega), gx_u_ne (by omega), gx_u_ne (by omega), gx_u_self]
    exact ⟨e.1, e.2.1, e.2.2, by omega⟩
  have pri : (sg = 62 ∨ sg = 93) → tx T L p - 97 ≠ (f : Int) → hxn xs n yp_m193 0 [(0, .inr (.inl 86)), (1, .inl 4)] [] (gx_u (gx_u (gx_u m 107 A.length (tx T L p - 97)) 86 5 (gx_w (m 86 5 + 1))) 108 A.length 0) (fun r m' => hxn xs n yp_m192 280 [(0, .inr (.inl 86))] (hrs r ++ []) m' Q) := fun hs hne => by
    rw [hR hne] at hQ
    refine r193 (p := p + 1) (most := 4) (by decide) hL hp u1 (fun hn m1 h1 h8 g1 => ?_) (fun hn m1 h7 g1 => ?_)
    · have b2 := (lnum_bd (T := T) (L := L) (p := p + 1) _ (ndg_dg (most := 4))).1
      have hA1 := rAc_5 g1 u2
      refine hx_dn (hr192_280 (fun _ => ?_) (fun c => absurd c (by decide)))
      have e1 := eM m1 (fun c c1 c2 => by rw [g1.1 c c1, gx_u_off c2, gx_u_off c1])
      obtain ⟨q1, q2, q3⟩ := rA_end (a := (y, f, sg, (tx T L p - 97).toNat, (lnum T (p + 1) (ndg T L (p + 1) 4)).toNat)) (M := m1) (v := m1 86 8) (by rw [h8]; dsimp only; omega) (by omega) h1 hA1 (rFd_t u3 (rF5_d g1)) e1
      rw [hA1.1, Int.toNat_natCast]
      rw [hA1.1] at q1 q2 q3
      refine hQ 1 _ ⟨q1, ?_⟩
      unfold dS4
      rw [if_pos hs, if_neg hn]
      exact ⟨rfl, q2, q3⟩
    · refine hx_dn (hr192_280 (fun c => absurd rfl c) (fun _ => hQ 0 m1 ⟨rFd_t u3 (rF5_d g1), ?_⟩))
      unfold dS4
      rw [if_pos hs, if_pos hn]
      exact ⟨rfl, h7⟩
  refine hx_dn (hr192_207 (fun a b => ?_) (fun a b c => ?_) (fun a _ b => ?_) (fun a => ?_))
  · rw [hi, Int.toNat_natCast, gx_u_self, e.2.1, hw97] at a
    rw [hi, Int.toNat_natCast, hw97]
    exact pri (.inl b) a
  · rw [hi, Int.toNat_natCast, gx_u_self, e.2.1, hw97] at a
    rw [hR a] at hQ
    rw [hi, Int.toNat_natCast, hw97]
    have e1 := eM (gx_u (gx_u m 107 A.length (tx T L p - 97)) 86 5 (gx_w (m 86 5 + 1))) (fun c c1 c2 => by rw [gx_u_off c1])
    obtain ⟨q1, q2, q3⟩ := rA_end (a := (y, f, sg, (tx T L p - 97).toNat, 0)) (v := 0) rfl (by omega) v1 vA vF e1
    rw [vA.1] at q1 q2 q3
    refine hQ 1 _ ⟨q1, ?_⟩
    unfold dS4
    rw [if_neg (by omega)]
    exact ⟨rfl, q2, q3⟩
  · rw [hi, Int.toNat_natCast, gx_u_self, e.2.1, hw97] at a
    rw [hi, Int.toNat_natCast, hw97]
    exact pri (.inr b) a
  · rw [hi, Int.toNat_natCast, gx_u_self, e.2.1, hw97] at a
    rw [Int.toNat_natCast, hw97, hS.1]
    refine rT172 (by decide) (by omega) (fun m1 h7 g1 => hx_dn (hr192_242 (hQ 0 m1 ⟨rFd_t w3 (rF5_d g1), ?_⟩)))
    unfold dS3
    rw [if_pos hpn, if_pos a]
    exact ⟨rfl, h7⟩
theorem r192_123 {b : Int} (hb : b = tx T L p) (hL : L ≤ 240) (hp : p ≤ L) (hS : rTx T L p m) (hA : rAc A m) (h16 : A.length < 16) (hf : rFd m0 m) (e : m 104 A.length = (y : Int) ∧ m 105 A.length = (f : Int)) (hQ : ∀ v m', rPC T L A m0 (dS2 T L p y f) v m' → Q (some (.inl v)) m') : hxn xs n yp_m192 123 [(0, .inr (.inl 86))] [.inl b] m Q := by
  subst hb
  have hi := hA.1
  obtain ⟨w1, w2, w3⟩ := rw_end (c := 106) (v := tx T L p) (by decide) hS hA hf
  have er : (gx_u m 106 A.length (tx T L p)) 86 5 = m 86 5 := gx_u_ne (by omega)
  obtain ⟨v1, v2⟩ := rT_st w1 (by omega)
  rw [er] at v1 v2
  have vA := rAc_5 v2 w2
  have vF := rFd_t w3 (rF5_d v2)
  have e1 : (gx_u (gx_u m 106 A.length (tx T L p)) 86 5 (gx_w (m 86 5 + 1))) 104 A.length = (y : Int) ∧ (gx_u (gx_u m 106 A.length (tx T L p)) 86 5 (gx_w (m 86 5 + 1))) 105 A.length = (f : Int) ∧ (gx_u (gx_u m 106 A.length (tx T L p)) 86 5 (gx_w (m 86 5 + 1))) 106 A.length = tx T L p := by
    rw [gx_u_ne (by omega), gx_u_ne (by omega), gx_u_ne (by omega), gx_u_ne (by omega), gx_u_ne (by omega), gx_u_self]
    exact ⟨e.1, e.2, rfl⟩
  have yes : (tx T L p = 62 ∨ tx T L p = 93 ∨ tx T L p = 91 ∨ tx T L p = 61) → isPn (aHere (gx_u (gx_u m 106 (m 86 32).toNat (tx T L p)) 86 5 (gx_w (m 86 5 + 1)))) → hxn xs n yp_m170 0 [(0, .inr (.inl 86))] [] (gx_u (gx_u m 106 (m 86 32).toNat (tx T L p)) 86 5 (gx_w (m 86 5 + 1))) (fun r m' => hxn xs n yp_m192 207 [(0, .inr (.inl 86)), (2, .inl (tx T L p))] (hrs r ++ [.inl (m 86 32), .inr (.inl 107)]) m' Q) := fun hs hpn => by
    rw [hi, Int.toNat_natCast] at hpn ⊢
    rw [rT_he v1] at hpn
    refine hs170 ?_
    refine r192_207 (rT_he v1) hpn hL (tx_lt (T := T) (by unfold isPn at hpn; omega)) v1 vA h16 vF e1 (fun v m' h => hQ v m' ?_)
    unfold dS2
    rw [if_pos hs]
    exact h
  have no : (tx T L p = 62 ∨ tx T L p = 93 ∨ tx T L p = 91 ∨ tx T L p = 61) → ¬ isPn (aHere (gx_u (gx_u m 106 (m 86 32).toNat (tx T L p)) 86 5 (gx_w (m 86 5 + 1)))) → hxn xs n yp_m172 0 [(0, .inr (.inl 86)), (1, .inl 1), (2, .inl (gx_w (m 86 5 + 1)))] [] (gx_u (gx_u m 106 (m 86 32).toNat (tx T L p)) 86 5 (gx_w (m 86 5 + 1))) (fun r m' => hxn xs n yp_m192 194 [] (hrs r ++ []) m' Q) := fun hs hpn => by
    rw [hi, Int.toNat_natCast] at hpn ⊢
    rw [rT_he v1] at hpn
    rw [hS.1, ew_u (by omega)]
    rw [hS.1] at vF
    refine rT172 (by decide) (by omega) (fun m1 h7 g1 => hx_dn (hr192_194 (hQ 0 m1 ⟨rFd_t ?_ (rF5_d g1), ?_⟩)))
    · rw [ew_u (by omega)] at vF
      exact vF
    · unfold dS2 dS3
      rw [if_pos hs, if_neg (show ¬ (97 ≤ tx T L (p + 1) ∧ tx T L (p + 1) ≤ 104) from hpn)]
      exact ⟨rfl, h7⟩
  refine hx_dn (hr192_123 (fun a => yes (.inl a)) (fun a => no (.inl a)) (fun _ a => yes (.inr (.inl a))) (fun _ a => no (.inr (.inl a))) (fun _ _ a => yes (.inr (.inr (.inl a)))) (fun _ _ a => no (.inr (.inr (.inl a)))) (fun _ _ _ a => yes (.inr (.inr (.inr a)))) (fun _ _ _ a => no (.inr (.inr (.inr a)))) (fun a b c d => ?_))
  rw [hS.1]
  refine rT172 (by decide) (by omega) (fun m1 h7 g1 => hx_dn (hr192_157 (hQ 0 m1 ⟨rFd_t hf (rF5_d g1), ?_⟩)))
  unfold dS2
  rw [if_neg (by omega)]
  exact ⟨rfl, h7⟩
theorem r192_0 (hL : L ≤ 240) (hp : p ≤ L) (hS : rTx T L p m) (hA : rAc A m) (h16 : A.length ≤ 16) (hf : rFd m0 m) (hQ : ∀ v m', rPC T L A m0 (dRd T L p A.length) v m' → Q (some (.inl v)) m') : hxn xs n yp_m192 0 [(0, .inr (.inl 86))] [] m Q := by
  have hi := hA.1
  have hd0 : isDg (aHere m) → ndg T L p 2 ≠ 0 := fun hd => by
    rw [rT_he hS] at hd
    have hd : 48 ≤ tx T L p ∧ tx T L p ≤ 57 := hd
    unfold ndg
    rw [if_pos hd]
    omega
  refine hx_dn (hr192_0 (fun a b => ?_) (fun a b => ?_) (fun a => ?_))
  · have h0 := hd0 a
    rw [hi] at b
    have hR : dRd T L p A.length = dS1 T L p (p + ndg T L p 2) (lnum T p (ndg T L p 2)) := by
      unfold dRd
      rw [if_neg h0, if_neg (by omega)]
    rw [hR] at hQ
    obtain ⟨b2, -⟩ := lnum_bd (T := T) (L := L) (p := p) _ (ndg_dg (most := 2))
    have hpe := ndg_end (T := T) 2 p hp
    rw [hS.1]
    refine r193 (most := 2) (by decide) hL hp hS (fun _ m1 h1 h8 g1 => ?_) (fun c => absurd c h0)
    have hA1 := rAc_5 g1 hA
    have hf1 := rFd_t hf (rF5_d g1)
    obtain ⟨w1, w2, w3⟩ := rw_end (c := 104) (v := lnum T p (ndg T L p 2)) (by decide) h1 hA1 hf1
    refine hx_dn (hr192_46 (fun c d => ?_) (fun c d => ?_) (fun c => ?_))
    · rw [h8] at c
      rw [hA1.1, Int.toNat_natCast, h8] at d ⊢
      rw [rT_he w1] at d
      have d' : 97 ≤ tx T L (p + ndg T L p 2) ∧ tx T L (p + ndg T L p 2) ≤ 104 := d
      have hlt : p + ndg T L p 2 < L := tx_lt (T := T) (by omega)
      refine hs170 ?_
      rw [rT_he w1]
      refine hx_dn (hr192_105 ?_)
      rw [Int.toNat_natCast, gx_w_id (x := tx T L (p + ndg T L p 2) - 97) (by omega) (by omega)]
      obtain ⟨u1, u2, u3⟩ := rw_end (c := 105) (v := tx T L (p + ndg T L p 2) - 97) (by decide) w1 w2 w3
      obtain ⟨t1, t2⟩ := rT_st u1 (by omega)
      rw [gx_u_ne (c := 105) (by omega)] at t1 t2
      refine hs170 ?_
      refine r192_123 (y := (lnum T p (ndg T L p 2)).toNat) (f := (tx T L (p + ndg T L p 2) - 97).toNat) (rT_he t1) hL hlt t1 (rAc_5 t2 u2) (by omega) (rFd_t u3 (rF5_d t2)) ?_ (fun v m' h => hQ v m' ?_)
      · rw [gx_u_ne (by omega), gx_u_ne (by omega), gx_u_self, gx_u_ne (by omega), gx_u_self]
        exact ⟨by omega, by omega⟩
      · unfold dS1
        rw [if_neg (by omega), if_pos d']
        exact h
    · rw [h8] at c
      rw [hA1.1, Int.toNat_natCast, h8] at d ⊢
      rw [rT_he w1] at d
      rw [h1.1]
      refine rT172 (by decide) (by omega) (fun m2 h7 g2 => hx_dn (hr192_92 (hQ 0 m2 ⟨rFd_t w3 (rF5_d g2), ?_⟩)))
      unfold dS1
      rw [if_neg (by omega), if_neg (show ¬ (97 ≤ tx T L (p + ndg T L p 2) ∧ tx T L (p + ndg T L p 2) ≤ 104) from d)]
      exact ⟨rfl, h7⟩
    · rw [h8] at c
      refine rT172 (by decide) (by omega) (fun m2 h7 g2 => hx_dn (hr192_62 (hQ 0 m2 ⟨rFd_t hf1 (rF5_d g2), ?_⟩)))
      unfold dS1
      rw [if_pos c]
      exact ⟨rfl, h7⟩
  · have h0 := hd0 a
    rw [hi] at b
    rw [hS.1]
    refine rT172 (by decide) (by omega) (fun m2 h7 g2 => hx_dn (hr192_40 (hQ 0 m2 ⟨rFd_t hf (rF5_d g2), ?_⟩)))
    unfold dRd
    rw [if_neg h0, if_pos (by omega)]
    exact ⟨rfl, h7⟩
  · rw [rT_he hS] at a
    rw [hS.1]
    refine rT172 (by decide) (by omega) (fun m2 h7 g2 => hx_dn (hr192_21 (hQ 0 m2 ⟨rFd_t hf (rF5_d g2), ?_⟩)))
    unfold dRd
    rw [if_pos (ndg_of (j := 0) (by omega) (fun i hi => absurd hi (by omega)) (.inr a))]
    exact ⟨rfl, h7⟩
/-- the reference reads deals -/
def rPA (m0 : gx_M) (r : List hAct ⊕ Int) (v : Int) (m : gx_M) : Prop := rFd m0 m ∧ m 86 4 = 0 ∧ match r with
  | .inl A => v = 1 ∧ rAc A m
  | .inr f => v = 0 ∧ m 86 7 = f
theorem rPA_0 {M : gx_M} (hf : rFd m0 M) : rFd m0 (gx_u M 86 4 0) ∧ (gx_u M 86 4 0) 86 4 = 0 ∧ (∀ A, rAc A M → rAc A (gx_u M 86 4 0)) ∧ (gx_u M 86 4 0) 86 7 = M 86 7 := by
  refine ⟨⟨fun c a b => by rw [gx_u_off a]; exact hf.1 c a b, fun k a1 a2 a3 a4 a5 a6 => by rw [gx_u_ne (by omega)]; exact hf.2 k a1 a2 a3 a4 a5 a6⟩, gx_u_self, fun A hA => ?_, gx_u_ne (by decide)⟩
  unfold rAc
  rw [gx_u_ne (by decide), gx_u_off (by decide), gx_u_off (by decide), gx_u_off (by decide), gx_u_off (by decide), gx_u_off (by decide)]
  exact hA
/-- from behind an act on: d more acts may come -/
theorem r191l (hL : L ≤ 240) : ∀ d : Nat, ∀ (A : List hAct) (p : Nat) (m : gx_M) (r : hRd) (v : Int), A.length + d = 16 → p ≤ L → r = dRd T L p A.length → rPC T L A m0 r v m → (∀ w m', rPA m0 (dAll T L (d + 1) p A) w m' → Q (some (.inl w)) m') → (v = 0 ∨ v = 1) ∧ hxn xs n yp_m191 20 [(0, .inr (.inl 86)), (2, .inl v)] [] m Q := by
  intro d
  induction d with
  | zero =>
    intro A p m r v hd hp hr hP hQ
    unfold dAll at hQ
    rw [← hr] at hQ
    unfold rPC at hP
    obtain ⟨o, f⟩ := r
    cases o with
    | none =>
      obtain ⟨hf, rfl, h7⟩ := hP
      obtain ⟨z1, z2, z3, z4⟩ := rPA_0 hf
      exact ⟨.inl rfl, hx_dn (hr191_20 (fun _ => hQ 0 _ ⟨z1, z2, rfl, z4.trans h7⟩) (fun c => absurd rfl c) (fun c => absurd rfl c))⟩
    | some pa =>
      obtain ⟨p', a⟩ := pa
      obtain ⟨-, -, -, h17⟩ := dRd_ok hp hr.symm
      omega
  | succ d ih =>
    intro A p m r v hd hp hr hP hQ
    unfold dAll at hQ
    rw [← hr] at hQ
    unfold rPC at hP
    obtain ⟨o, f⟩ := r
    cases o with
    | none =>
      obtain ⟨hf, rfl, h7⟩ := hP
      obtain ⟨z1, z2, z3, z4⟩ := rPA_0 hf
      exact ⟨.inl rfl, hx_dn (hr191_20 (fun _ => hQ 0 _ ⟨z1, z2, rfl, z4.trans h7⟩) (fun c => absurd rfl c) (fun c => absurd rfl c))⟩
    | some pa =>
      obtain ⟨p', a⟩ := pa
      obtain ⟨-, -, hpL, h17⟩ := dRd_ok hp hr.symm
      obtain ⟨hf, rfl, hS1, hA1⟩ := hP
      dsimp only at hQ
      obtain ⟨z1, z2, z3, z4⟩ := rPA_0 hf
      refine ⟨.inr rfl, hx_dn (hr191_20 (fun c => absurd c (by decide)) (fun _ c => ?_) (fun _ c => ?_))⟩
      · rw [hS1.1, hS1.2.1] at c
        rw [if_pos (by omega)] at hQ
        exact hQ 1 _ ⟨z1, z2, rfl, z3 _ hA1⟩
      · rw [hS1.1, hS1.2.1] at c
        rw [if_neg (by omega)] at hQ
        refine hx_dn (hr189_0 (fun e => ?_) (fun e => ?_))
        · rw [rT_he hS1] at e
          rw [if_pos e] at hQ
          obtain ⟨t1, t2⟩ := rT_st hS1 (by omega)
          refine hx_dn (hr191_41 (s0 := 1) (fun c => absurd c (by decide)) (fun _ => ?_))
          refine r192_0 (m0 := m0) hL (by omega) t1 (rAc_5 t2 hA1) (by rw [List.length_append, List.length_singleton]; omega) (rFd_t hf (rF5_d t2)) (fun w m2 h2 => ?_)
          obtain ⟨q1, q2⟩ := ih (A ++ [a]) (p' + 1) m2 _ w (by rw [List.length_append, List.length_singleton]; omega) (by omega) rfl h2 hQ
          rcases q1 with rfl | rfl
          · exact hx_dn (hr191_48 (s0 := 0) (fun _ => q2) (fun c => absurd rfl c))
          · exact hx_dn (hr191_48 (s0 := 1) (fun c => absurd c (by decide)) (fun _ => q2))
        · rw [rT_he hS1] at e
          rw [if_neg e] at hQ
          rw [hS1.1]
          refine rT172 (by decide) (by omega) (fun m2 h7 g2 => hx_dn (hr189_17 ?_))
          obtain ⟨z1, z2, z3, z4⟩ := rPA_0 (rFd_t hf (rF5_d g2))
          refine hx_dn (hr191_41 (s0 := 0) (fun _ => ?_) (fun c => absurd rfl c))
          exact hx_dn (hr191_20 (fun _ => hQ 0 _ ⟨z1, z2, rfl, z4.trans h7⟩) (fun c => absurd rfl c) (fun c => absurd rfl c))
theorem r191 (hL : L ≤ 240) (hT : ∀ k, k < L → gx_and (m 90 k) 255 = T k) (hQ : ∀ v m', rPA m (dAll T L 17 0 []) v m' → Q (some (.inl v)) m') : hxn xs n yp_m191 0 [(0, .inr (.inl 86)), (1, .inl (L : Int))] [] m Q := by
  refine hx_dn (hr191_0 ?_)
  refine r192_0 (T := T) (L := L) (p := 0) (A := []) (m0 := m) hL (Nat.zero_le _) ⟨?_, ?_, fun k hk => ?_⟩ ⟨?_, fun i a ha => by cases ha⟩ (Nat.zero_le _) ⟨fun c a _ => ?_, fun k a1 a2 a3 a4 a5 a6 => ?_⟩ (fun v m1 h1 => ?_)
  · rw [gx_u_ne (by decide), gx_u_ne (by decide), gx_u_self]
    rfl
  · rw [gx_u_ne (by decide), gx_u_self]
  · rw [gx_u_ne (by omega), gx_u_ne (by omega), gx_u_ne (by omega)]
    exact hT k hk
  · rw [gx_u_self]
    rfl
  · rw [gx_u_off a, gx_u_off a, gx_u_off a]
  · rw [gx_u_ne (by omega), gx_u_ne (by omega), gx_u_ne (by omega)]
  · exact hx_dn (hr191_19 (r191l hL 16 [] 0 m1 _ v rfl (Nat.zero_le _) rfl h1 hQ).2)
end RT
