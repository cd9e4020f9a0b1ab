/-! the reference: jumps that land, sums that are open, numbers -/
section RL
variable {xs : List Int32} {n : Nat} {Q : hQ} {T : Nat → Int} {L p o : Nat} {m0 m : gx_M} {K W : hCode}
theorem rs187_p {x a c0 : Int} {f : Nat} (hS : rS T L m0 p K (W ++ [(a, (f : Int))]) o m) (ha : a = 11 ∨ (a = 12 ∧ x ≠ 0)) (hc : (c0 = 38 ∧ a = 11) ∨ (c0 = 124 ∧ a = 12)) (hf : K[f]? = some (c0, 0)) (h : ∀ m', rS T L m0 p (K.set f (c0, (K.length : Int))) W o m' → hxn xs n yp_m187 0 [(0, .inr (.inl 86)), (1, .inl x)] [] m' Q) : hxn xs n yp_m187 0 [(0, .inr (.inl 86)), (1, .inl x)] [] m Q := by
  have hw := rs_wl hS
  have hwl := rs_W hS
  have hkl := rs_kl hS
  rw [List.length_append, List.length_singleton] at hw hwl
  have hlt := lk_lt hf
  obtain ⟨e2, b1, b2, b3, b4⟩ := hS.2.2.1.2 W.length _ lk_last
  dsimp only at e2 b1 b2 b3 b4
  have ei : (gx_w (m 86 11 - 1)).toNat = W.length := by
    rw [hwl, gx_w_id (by omega) (by omega)]
    omega
  have et : Int.tmod (1048576 * a + (f : Int)) 1048576 = (f : Int) := by
    rw [Int.tmod_eq_emod_of_nonneg (by omega)]
    omega
  have ek : m 91 f = 1048576 * a := by
    rw [hS.2.1.2 f _ hf]
    rcases hc with ⟨rfl, rfl⟩ | ⟨rfl, rfl⟩ <;> decide
  have ed : Int.tdiv (1048576 * a) 1048576 = a := by
    rw [Int.tdiv_eq_ediv_of_nonneg (by omega)]
    omega
  have s1 : rS T L m0 p (K.set f (c0, (K.length : Int))) (W ++ [(a, (f : Int))]) o (gx_u m 91 f (1048576 * a + (K.length : Int))) := by
    refine rS_of hS ?_ ?_ (fun i d hd => ?_) ?_ (fun i r hr => ?_) ?_ (fun c k c1 c2 c3 => ?_) (rs_le hS) (by rw [List.length_set]; exact hkl) (rs_wl hS) (rs_ol hS)
    · rw [gx_u_ne (by omega)]
      exact rs_pl hS
    · rw [gx_u_ne (by omega), List.length_set]
      exact rs_K hS
    · rcases lk_set hd with ⟨rfl, rfl⟩ | ⟨hne, hd⟩
      · rw [gx_u_self]
        rcases hc with ⟨rfl, rfl⟩ | ⟨rfl, rfl⟩ <;> rfl
      · rw [gx_u_ne (by omega)]
        exact hS.2.1.2 i d hd
    · rw [gx_u_ne (by omega)]
      exact rs_W hS
    · rw [gx_u_ne (by omega)]
      exact hS.2.2.1.2 i r hr
    · rw [gx_u_ne (by omega)]
      exact rs_o hS
    · rw [gx_u_ne (by omega)]
  have s2 := rs_po s1
  have e3 : gx_u m 91 f (1048576 * a + (K.length : Int)) 86 11 = m 86 11 := gx_u_ne (by omega)
  rw [e3] at s2
  have fin : hxn xs n yp_m187 0 [(0, .inr (.inl 86)), (1, .inl x)] [] (gx_u (gx_u m 91 (Int.tmod (m 92 (gx_w ((m 86 11) - 1)).toNat) 1048576).toNat (gx_w ((gx_w (1048576 * (gx_w (Int.tdiv (m 91 (Int.tmod (m 92 (gx_w ((m 86 11) - 1)).toNat) 1048576).toNat) 1048576)))) + (m 86 10)))) 86 11 (gx_w ((m 86 11) - 1))) Q := by
    rw [ei, e2, et, Int.toNat_natCast, ek, ed, gx_w_id (x := a) (by omega) (by omega), gx_w_id (x := 1048576 * a) (by omega) (by omega), rs_K hS, gx_w_id (x := 1048576 * a + (K.length : Int)) (by omega) (by omega)]
    exact h _ s2
  refine hx_dn (hr187_0 (rs182 hS ?_))
  rw [wtop_app]
  show hxn xs n yp_m187 4 [(0, .inr (.inl 86)), (1, .inl x)] [.inl a] m Q
  rcases ha with ha | ⟨ha, hx⟩
  · exact hx_dn (hr187_4 (fun _ => fin) (fun c => absurd ha c) (fun c => absurd ha c))
  · refine hx_dn (hr187_4 (fun c => absurd c (by omega)) (fun _ c => absurd c hx) (fun _ _ => rs182 hS ?_))
    rw [wtop_app]
    show hxn xs n yp_m187 17 [(0, .inr (.inl 86)), (1, .inl x)] [.inl a] m Q
    exact hx_dn (hr187_17 (fun c => absurd ha c) (fun _ => fin))
theorem rs187_s {x : Int} (hS : rS T L m0 p K W o m) (h1 : wtop W ≠ 11) (h2 : x ≠ 0 → wtop W ≠ 12) (h : Q none m) : hxn xs n yp_m187 0 [(0, .inr (.inl 86)), (1, .inl x)] [] m Q := by
  refine hx_dn (hr187_0 (rs182 hS ?_))
  show hxn xs n yp_m187 4 [(0, .inr (.inl 86)), (1, .inl x)] [.inl (wtop W)] m Q
  refine hx_dn (hr187_4 (fun c => absurd c h1) (fun _ _ => h) (fun _ c => rs182 hS ?_))
  show hxn xs n yp_m187 17 [(0, .inr (.inl 86)), (1, .inl x)] [.inl (wtop W)] m Q
  exact hx_dn (hr187_17 (fun _ => h) (fun e => absurd e (h2 c)))
theorem rl183 (hS : rS T L m0 p K W o m) {b : Nat} (h1 : (∃ i q, b ≤ i ∧ W[i]? = some q ∧ q.1 = 14) → Q (some (.inl 1)) m) (h0 : (∀ i q, b ≤ i → W[i]? = some q → q.1 ≠ 14) → Q (some (.inl 0)) m) : ∀ e i : Nat, i + e = W.length → b ≤ i → (∀ j q, b ≤ j → j < i → W[j]? = some q → q.1 ≠ 14) → hxn xs n yp_m183 2 [(0, .inr (.inl 86)), (2, .inl (i : Int))] [] m Q := by
  have hw := rs_wl hS
  have hwl := rs_W hS
  intro e
  induction e with
  | zero =>
    intro i hi hb hno
    refine hx_dn (hr183_2 (by omega) (fun _ => h0 (fun j q hj hq => ?_)) (fun c => absurd c (by omega)) (fun c => absurd c (by omega)))
    have := lk_lt hq
    exact hno j q hj (by omega) hq
  | succ e ih =>
    intro i hi hb hno
    have hlt : i < W.length := by omega
    obtain ⟨q, hq⟩ : ∃ q, W[i]? = some q := ⟨_, List.getElem?_eq_getElem hlt⟩
    obtain ⟨e2, b1, b2, b3, b4⟩ := hS.2.2.1.2 i q hq
    have ed : gx_w (Int.tdiv (m 92 (i : Int).toNat) 1048576) = q.1 := by
      rw [Int.toNat_natCast, e2, Int.tdiv_eq_ediv_of_nonneg (by omega)]
      have : (1048576 * q.1 + q.2) / 1048576 = q.1 := by omega
      rw [this, gx_w_id (by omega) (by omega)]
    refine hx_dn (hr183_2 (by omega) (fun c => absurd c (by omega)) (fun _ c => ?_) (fun _ c => ?_))
    · rw [ed] at c
      refine ih (i + 1) (by omega) (by omega) (fun j r hj hji hr => ?_)
      by_cases e : j = i
      · subst e
        rw [hq] at hr
        cases hr
        exact c
      · exact hno j r hj (by omega) hr
    · rw [ed] at c
      exact h1 ⟨i, q, hb, hq, c⟩
theorem rs183 (hS : rS T L m0 p K W o m) {b : Nat} (hb : b ≤ W.length) (h1 : (∃ i q, b ≤ i ∧ W[i]? = some q ∧ q.1 = 14) → Q (some (.inl 1)) m) (h0 : (∀ i q, b ≤ i → W[i]? = some q → q.1 ≠ 14) → Q (some (.inl 0)) m) : hxn xs n yp_m183 0 [(0, .inr (.inl 86)), (1, .inl (b : Int))] [] m Q :=
  hx_dn (hr183_0 (rl183 hS h1 h0 (W.length - b) b (by omega) (Nat.le_refl _) (fun j q h1 h2 => absurd h2 (by omega))))
theorem rs_n8 (hS : rS T L m0 p K W o m) (v : Int) : rS T L m0 p K W o (gx_u m 86 8 v) := by
  refine rS_of hS ?_ ?_ (fun i d hd => ?_) ?_ (fun i r hr => ?_) ?_ (fun c k c1 c2 c3 => ?_) (rs_le hS) (rs_kl hS) (rs_wl hS) (rs_ol hS)
  · rw [gx_u_ne (by omega)]
    exact rs_pl hS
  · rw [gx_u_ne (by omega)]
    exact rs_K hS
  · rw [gx_u_ne (by omega)]
    exact hS.2.1.2 i d hd
  · rw [gx_u_ne (by omega)]
    exact rs_W hS
  · rw [gx_u_ne (by omega)]
    exact hS.2.2.1.2 i r hr
  · rw [gx_u_ne (by omega)]
    exact rs_o hS
  · rw [gx_u_ne (by omega)]
theorem rl177 (h1 : ∀ j m', j ≤ 5 → (∀ i, i < j → isDg (tx T L (p + i))) → ¬ isDg (tx T L (p + j)) → rS T L m0 (p + j) K W o m' → m' 86 8 = lnum T p j → Q (some (.inl 1)) m') (h0 : ∀ m', (∀ i, i < 6 → isDg (tx T L (p + i))) → rF m0 (lfl 2 (p + 5)) m' → Q (some (.inl 0)) m') : ∀ e j : Nat, j + e = 5 → ∀ m', rS T L m0 (p + j) K W o m' → m' 86 8 = lnum T p j → (∀ i, i < j → isDg (tx T L (p + i))) → hxn xs n yp_m177 10 [(0, .inr (.inl 86)), (1, .inl (p : Int))] [] m' Q := by
  intro e
  induction e with
  | zero =>
    intro j hj m' hS h8 hd
    have hL := rs_L hS
    have hle := rs_le hS
    have e : j = 5 := by omega
    subst e
    refine hx_dn (hr177_10 (fun _ c => absurd (by rw [rs_pl hS, gx_w_id (by omega) (by omega)]; omega) c) (fun c _ => ?_) (fun c => ?_))
    · rw [rs_he hS] at c
      rw [rs_pl hS]
      refine rs172 hS (by decide) (fun m2 h2 => hx_dn (hr177_36 (h0 m2 (fun i hi => ?_) h2)))
      by_cases e : i = 5
      · rw [e]
        exact c
      · exact hd i (by omega)
    · rw [rs_he hS] at c
      exact h1 5 m' (Nat.le_refl _) hd c hS h8
  | succ e ih =>
    intro j hj m' hS h8 hd
    have hL := rs_L hS
    have hle := rs_le hS
    refine hx_dn (hr177_10 (fun c _ => ?_) (fun _ c => absurd c (by rw [rs_pl hS, gx_w_id (by omega) (by omega)]; omega)) (fun c => ?_))
    · rw [rs_he hS] at c ⊢
      have hlt := isDg_lt c
      have b1 := lnum_bd (T := T) (L := L) (p := p) j hd
      have b2 := lpw_le (j := j) (by omega)
      have c2 : 48 ≤ T (p + j) ∧ T (p + j) ≤ 57 := by
        rw [tx_eq hlt] at c
        exact c
      have ev : gx_w (gx_w (gx_w (10 * m' 86 8) + tx T L (p + j)) - 48) = lnum T p (j + 1) := by
        rw [h8, tx_eq hlt, gx_w_id (x := 10 * lnum T p j) (by omega) (by omega), gx_w_id (x := 10 * lnum T p j + T (p + j)) (by omega) (by omega), gx_w_id (by omega) (by omega)]
        rfl
      rw [ev]
      have s1 := rs_st (rs_n8 hS (lnum T p (j + 1))) hlt
      have e1 : gx_u m' 86 8 (lnum T p (j + 1)) 86 5 = m' 86 5 := gx_u_ne (by omega)
      rw [e1] at s1
      refine ih (j + 1) (by omega) _ s1 (by rw [gx_u_ne (by omega), gx_u_self]) (fun i hi => ?_)
      by_cases e : i = j
      · rw [e]
        exact c
      · exact hd i (by omega)
    · rw [rs_he hS] at c
      exact h1 j m' (by omega) hd c hS h8
theorem rs177 (hS : rS T L m0 p K W o m) (h1 : ∀ j m', j ≤ 5 → (∀ i, i < j → isDg (tx T L (p + i))) → ¬ isDg (tx T L (p + j)) → rS T L m0 (p + j) K W o m' → m' 86 8 = lnum T p j → Q (some (.inl 1)) m') (h0 : ∀ m', (∀ i, i < 6 → isDg (tx T L (p + i))) → rF m0 (lfl 2 (p + 5)) m' → Q (some (.inl 0)) m') : hxn xs n yp_m177 0 [(0, .inr (.inl 86))] [] m Q := by
  refine hx_dn (hr177_0 ?_)
  rw [rs_pl hS]
  exact rl177 h1 h0 5 0 rfl _ (rs_n8 hS 0) (by rw [gx_u_self]; rfl) (fun i hi => absurd hi (by omega))
theorem rs180 {c : Int} (hP : isPr c ∨ isSm c → Q (some (.inl (lop c))) m) (hN : ¬ isPr c → ¬ isSm c → Q (some (.inl (-1))) m) : hxn xs n yp_m180 0 [(0, .inl c)] [] m Q := by
  refine hx_dn (hr180_0 (fun a b d e f => hN ?_ ?_) (fun _ _ _ _ a => ?_) (fun _ _ _ a => ?_) (fun _ _ a => ?_) (fun _ a => ?_) (fun a => ?_))
  · unfold isPr
    omega
  · unfold isSm
    omega
  · subst a
    exact hP (.inl (.inr (.inr rfl)))
  · subst a
    exact hP (.inl (.inr (.inl rfl)))
  · subst a
    exact hP (.inl (.inl rfl))
  · subst a
    exact hP (.inr (.inr rfl))
  · subst a
    exact hP (.inr (.inl rfl))
theorem rs179 {c : Int} (hP : isLt c → Q (some (.inl (lfa c))) m) (hN : ¬ isLt c → Q (some (.inl (-1))) m) : hxn xs n yp_m179 0 [(0, .inl c)] [] m Q := by
  refine hs179 ?_
  by_cases a : isLt c
  · exact hP a
  · have e : lfa c = -1 := by
      unfold isLt at a
      unfold lfa
      omega
    rw [e]
    exact hN a
end RL
