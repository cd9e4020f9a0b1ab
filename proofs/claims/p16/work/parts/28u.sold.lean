/-! sold -/
theorem gx_or_bd : ∀ s : Nat, s < 256 → ∀ p : Nat, p < 8 → 0 ≤ gx_or (s : Int) (gx_shl 1 (p : Int)) ∧ gx_or (s : Int) (gx_shl 1 (p : Int)) ≤ 255 := by decide +kernel
theorem gx_or_bdI {s p : Int} (h1 : 0 ≤ s) (h2 : s ≤ 255) (h3 : 0 ≤ p) (h4 : p ≤ 7) : 0 ≤ gx_or s (gx_shl 1 p) ∧ gx_or s (gx_shl 1 p) ≤ 255 := by
  have := gx_or_bd s.toNat (by omega) p.toNat (by omega)
  rwa [show ((s.toNat : Nat) : Int) = s by omega, show ((p.toNat : Nat) : Int) = p by omega] at this
def gs_by (m : gx_M) (k p s : Int) : Int := if p = 8 then m 114 (256 * (k + 1) + s).toNat else if gx_and (gx_shr (m 86 38) p) 1 = 1 then (if gx_and (gx_shr s p) 1 = 1 then -1 else if m 87 (240 + m 112 k.toNat).toNat = p then -1 else gx_w (m 113 (8 * k + p).toNat + m 114 (256 * (k + 1) + gx_or s (gx_shl 1 p)).toNat)) else -1
theorem gs_by_up {m : gx_M} {k p s v : Int} {i : Nat} (h1 : 0 ≤ k) (h2 : 0 ≤ s) (h2' : s ≤ 255) (hp : 0 ≤ p) (hp' : p ≤ 8) (hi : (i : Int) < 256 * (k + 1)) : gs_by (gx_u m 114 i v) k p s = gs_by m k p s := by
  unfold gs_by
  by_cases h8 : p = 8
  · rw [if_pos h8, if_pos h8, gx_u_ne (fun e => by omega)]
  · have hb := gx_or_bdI h2 h2' hp (by omega)
    rw [if_neg h8, if_neg h8, gx_u_off (by decide : (86 : Nat) ≠ 114), gx_u_off (by decide : (87 : Nat) ≠ 114), gx_u_off (by decide : (112 : Nat) ≠ 114), gx_u_off (by decide : (113 : Nat) ≠ 114), gx_u_ne (c' := 114) (k' := (256 * (k + 1) + gx_or s (gx_shl 1 p)).toNat) (fun e => by omega)]
/-- the best of a year and a set is what somebody comes to, and isn't below 0 -/
def gs_at (m : gx_M) (k s : Int) : Prop := 0 ≤ m 114 (256 * k + s).toNat ∧ ∃ p : Int, 0 ≤ p ∧ p ≤ 8 ∧ gs_by m k p s = m 114 (256 * k + s).toNat
section GSD
variable {xs : List Int32} {w0 : sx_W} {d : Nat} {Q : gx_Q} {m : gx_M}
theorem gc_soldBy (hI : gx_I m) {k p s : Int} (hk : 0 ≤ k ∧ k ≤ 5) (hp : 0 ≤ p ∧ p ≤ 8) (hs : 0 ≤ s ∧ s ≤ 255) (hQ : Q (some (gs_by m k p s)) m) : gx_to xs w0 (d + 1) yp_m246 0 [(0, .inr 86), (1, .inl k), (2, .inl p), (3, .inl s)] [] m Q := by
  unfold gs_by at hQ
  refine gt246_0 hk hp hs (fun c => ?_) (fun c => by rw [if_pos c] at hQ; exact hQ)
  rw [if_neg c] at hQ
  have hb := gx_or_bdI hs.1 hs.2 hp.1 (by omega)
  refine gc_has (fun h1 => ?_) (fun h1 => ?_)
  · unfold gx_has at h1
    rw [if_pos h1] at hQ
    refine gt246_29 hk (by omega) hs (fun e => by omega) (fun _ => gc_has (fun h2 => ?_) (fun h2 => ?_))
    · unfold gx_has at h2
      rw [if_pos h2] at hQ
      exact gt246_37 hI hk (by omega) hs (fun _ => hQ) (fun e => by omega) (fun e => by omega) (fun e => by omega)
    · unfold gx_has at h2
      rw [if_neg h2] at hQ
      have hw : gx_w (256 * (k + 1) + gx_or s (gx_shl 1 p)) = 256 * (k + 1) + gx_or s (gx_shl 1 p) := gx_w_id (by omega) (by omega)
      refine gt246_37 hI hk (by omega) hs (fun e => absurd rfl e) (fun _ _ => by rw [hw]; omega) (fun _ e => ?_) (fun _ e => by rw [if_pos e] at hQ; exact hQ)
      rw [if_neg e] at hQ
      rw [hw]
      exact hQ
  · unfold gx_has at h1
    rw [if_neg h1] at hQ
    exact gt246_29 hk (by omega) hs (fun _ => hQ) (fun e => absurd rfl e)
def gx_lay : bx_M := [(86, 38, 39), (114, 0, 1792)]
/-- all the bests of the years behind k stand -/
def gs_ok (n : Nat) (k : Int) (m : gx_M) : Prop := (∀ s : Int, 0 ≤ s → s ≤ 255 → 0 ≤ m 114 (256 * (n : Int) + s).toNat) ∧ ∀ k' : Int, k < k' → k' < n → ∀ s : Int, 0 ≤ s → s ≤ 255 → gs_at m k' s
def gs_st (m0 : gx_M) (n : Nat) (m : gx_M) : Prop := gx_I m ∧ gx_fw gx_lay m0 m ∧ m 86 37 = n
theorem gs_ok.nn {n : Nat} {k : Int} {m : gx_M} (h : gs_ok n k m) (h0 : 0 ≤ k) (hk : k < n) {s : Int} (h1 : 0 ≤ s) (h2 : s ≤ 255) : 0 ≤ m 114 (256 * (k + 1) + s).toNat := by
  by_cases e : k + 1 = n
  · rw [e]; exact h.1 s h1 h2
  · exact (h.2 (k + 1) (by omega) (by omega) s h1 h2).1
theorem gs_rg {m : gx_M} (hI : gx_I m) (i : Nat) (hi : i < 1792) : -2147483648 ≤ m 114 i ∧ m 114 i ≤ 2147483647 := by
  have := gx_I_at hI 114 (z := (i : Int)) 0 1791 (-2147483648) 2147483647 (by decide +kernel) (by omega) (by omega)
  rwa [Int.toNat_natCast] at this
theorem gs_by_rg {m : gx_M} (hI : gx_I m) {k p s : Int} (hk : 0 ≤ k ∧ k ≤ 5) (hs : 0 ≤ s ∧ s ≤ 255) : -2147483648 ≤ gs_by m k p s ∧ gs_by m k p s ≤ 2147483647 := by
  unfold gs_by
  split
  · exact gs_rg hI _ (by omega)
  · split
    · split
      · omega
      · split
        · omega
        · exact gx_w_bd _
    · omega
theorem gs_w {m0 m : gx_M} {n : Nat} (hs : gs_st m0 n m) {z v : Int} (h1 : 0 ≤ z) (h2 : z < 1792) (h3 : -2147483648 ≤ v ∧ v ≤ 2147483647) : gs_st m0 n (gx_u m 114 z.toNat v) :=
  ⟨gx_I_w hs.1 114 (z := z) 0 1791 (-2147483648) 2147483647 (by decide +kernel) h1 (by omega) h3.1 h3.2, hs.2.1.w ⟨(114, 0, 1792), by simp [gx_lay], rfl, Nat.zero_le _, by show z.toNat < 1792; omega⟩, by rw [gx_u_off (by decide : (86 : Nat) ≠ 114)]; exact hs.2.2⟩
theorem gl_lay62 {m0 : gx_M} {n : Nat} (hn : 1 ≤ n ∧ n ≤ 6) {k s : Int} (hk : 0 ≤ k ∧ k < n) (hss : 0 ≤ s ∧ s ≤ 255) (hs : gs_st m0 n m) (hok : gs_ok n k m) (hrow : ∀ s' : Int, 0 ≤ s' → s' < s → gs_at m k s') (hQ : ∀ m', gs_st m0 n m' → gs_ok n k m' → (∀ s' : Int, 0 ≤ s' → s' < s + 1 → gs_at m' k s') → gx_to xs w0 (d + 2) yp_m245 49 [(0, .inr 86), (2, .inl k), (3, .inl (s + 1))] [] m' Q) : ∀ (j : Nat) (b p : Int), 9 - p = j → 0 ≤ p → 0 ≤ b → b ≤ 2147483647 → (b = 0 ∨ ∃ p' : Int, 0 ≤ p' ∧ p' < p ∧ gs_by m k p' s = b) → (∀ p' : Int, 0 ≤ p' → p' < p → gs_by m k p' s ≤ b) → gx_to xs w0 (d + 2) yp_m245 62 [(0, .inr 86), (2, .inl k), (3, .inl s), (4, .inl b), (5, .inl p)] [] m Q := by
  have hg : 1 ≤ m 86 37 ∧ m 86 37 ≤ 6 := by rw [hs.2.2]; omega
  intro j
  induction j with
  | zero =>
    intro b p hj hp hb hb' hin hle
    have e9 : p = 9 := by omega
    subst e9
    refine gt245_62 (by omega) hss (by omega) hg (fun _ => hQ _ (gs_w hs (by omega) (by omega) (by omega)) ⟨fun s' h1 h2 => ?_, fun k' h1 h2 s' h3 h4 => ?_⟩ (fun s' h1 h2 => ?_)) (fun c => by omega)
    · rw [gx_u_ne (fun e => by omega)]
      exact hok.1 s' h1 h2
    · obtain ⟨g1, p', g2, g3, g4⟩ := hok.2 k' h1 h2 s' h3 h4
      have e : gx_u m 114 (256 * k + s).toNat b 114 (256 * k' + s').toNat = m 114 (256 * k' + s').toNat := gx_u_ne (fun e => by omega)
      unfold gs_at
      rw [e]
      exact ⟨g1, p', g2, g3, by rw [gs_by_up (by omega) h3 h4 g2 g3 (by omega)]; exact g4⟩
    · by_cases es : s' = s
      · subst es
        unfold gs_at
        rw [gx_u_self]
        refine ⟨hb, ?_⟩
        have hex : ∃ p' : Int, 0 ≤ p' ∧ p' ≤ 8 ∧ gs_by m k p' s' = b := by
          rcases hin with e0 | ⟨p', g1, g2, g3⟩
          · have h8 := hle 8 (by omega) (by omega)
            have hnn := hok.nn hk.1 hk.2 h1 (by omega : s' ≤ 255)
            have e8 : gs_by m k 8 s' = m 114 (256 * (k + 1) + s').toNat := if_pos rfl
            exact ⟨8, by omega, by omega, by omega⟩
          · exact ⟨p', g1, by omega, g3⟩
        obtain ⟨p', g1, g2, g3⟩ := hex
        exact ⟨p', g1, g2, by rw [gs_by_up hk.1 h1 (by omega) g1 g2 (by omega)]; exact g3⟩
      · obtain ⟨g1, p', g2, g3, g4⟩ := hrow s' h1 (by omega)
        have e : gx_u m 114 (256 * k + s).toNat b 114 (256 * k + s').toNat = m 114 (256 * k + s').toNat := gx_u_ne (fun e => by omega)
        unfold gs_at
        rw [e]
        exact ⟨g1, p', g2, g3, by rw [gs_by_up hk.1 h1 (by omega) g2 g3 (by omega)]; exact g4⟩
  | succ j ih =>
    intro b p hj hp hb hb' hin hle
    have hr := gs_by_rg hs.1 (k := k) (p := p) (s := s) (by omega) hss
    refine gt245_62 (by omega) hss (by omega) hg (fun c => by omega) (fun c => gc_soldBy hs.1 (by omega) (by omega) hss (gt245_77 (by omega) hss (by omega) hg (fun c1 => ?_) (fun c1 => gc_soldBy hs.1 (by omega) (by omega) hss (gt245_90 (by omega) hss (by omega) hg ?_))))
    · refine ih b (p + 1) (by omega) (by omega) hb hb' ?_ (fun p' h1 h2 => ?_)
      · rcases hin with e0 | ⟨p', g1, g2, g3⟩
        · exact .inl e0
        · exact .inr ⟨p', g1, by omega, g3⟩
      · by_cases e : p' = p
        · rw [e]; exact c1
        · exact hle p' h1 (by omega)
    · refine ih _ (p + 1) (by omega) (by omega) (by omega) hr.2 (.inr ⟨p, hp, by omega, rfl⟩) (fun p' h1 h2 => ?_)
      by_cases e : p' = p
      · rw [e]; exact Int.le_refl _
      · have := hle p' h1 (by omega)
        omega
theorem gl_lay49 {m0 : gx_M} {n : Nat} (hn : 1 ≤ n ∧ n ≤ 6) {k : Int} (hk : 0 ≤ k ∧ k < n) (hQ : ∀ m', gs_st m0 n m' → gs_ok n (k + (-1)) m' → gx_to xs w0 (d + 2) yp_m245 43 [(0, .inr 86), (2, .inl (k + (-1)))] [] m' Q) : ∀ (j : Nat) (s : Int) (m : gx_M), 256 - s = j → 0 ≤ s → gs_st m0 n m → gs_ok n k m → (∀ s' : Int, 0 ≤ s' → s' < s → gs_at m k s') → gx_to xs w0 (d + 2) yp_m245 49 [(0, .inr 86), (2, .inl k), (3, .inl s)] [] m Q := by
  intro j
  induction j with
  | zero =>
    intro s m hj h0 hs hok hrow
    have hg : 1 ≤ m 86 37 ∧ m 86 37 ≤ 6 := by rw [hs.2.2]; omega
    refine gt245_49 (by omega) (by omega) hg (fun _ => hQ m hs ⟨hok.1, fun k' h1 h2 s' h3 h4 => ?_⟩) (fun c => by omega)
    by_cases e : k' = k
    · rw [e]; exact hrow s' h3 (by omega)
    · exact hok.2 k' (by omega) h2 s' h3 h4
  | succ j ih =>
    intro s m hj h0 hs hok hrow
    have hg : 1 ≤ m 86 37 ∧ m 86 37 ≤ 6 := by rw [hs.2.2]; omega
    exact gt245_49 (by omega) (by omega) hg (fun c => by omega) (fun c => gl_lay62 hn hk (by omega) hs hok hrow (fun m' g1 g2 g3 => ih (s + 1) m' (by omega) (by omega) g1 g2 g3) 9 0 0 (by omega) (by omega) (by omega) (by omega) (.inl rfl) (fun p' h1 h2 => by omega))
theorem gl_lay43 {m0 : gx_M} {n : Nat} (hn : 1 ≤ n ∧ n ≤ 6) (hQ : ∀ v m', gs_st m0 n m' → gs_ok n (-1) m' → Q (some v) m') : ∀ (j : Nat) (k : Int) (m : gx_M), k + 1 = j → k < n → gs_st m0 n m → gs_ok n k m → gx_to xs w0 (d + 2) yp_m245 43 [(0, .inr 86), (2, .inl k)] [] m Q := by
  intro j
  induction j with
  | zero =>
    intro k m hj hk hs hok
    have e : k = -1 := by omega
    subst e
    have hg : 1 ≤ m 86 37 ∧ m 86 37 ≤ 6 := by rw [hs.2.2]; omega
    exact gt245_43 (by omega) hg (fun _ => hQ _ m hs hok) (fun c => by omega)
  | succ j ih =>
    intro k m hj hk hs hok
    have hg : 1 ≤ m 86 37 ∧ m 86 37 ≤ 6 := by rw [hs.2.2]; omega
    exact gt245_43 (by omega) hg (fun c => by omega) (fun c => gl_lay49 hn (by omega) (fun m' g1 g2 => ih _ m' (by omega) (by omega) g1 g2) 256 0 m (by omega) (by omega) hs hok (fun s' h1 h2 => by omega))
theorem gl_lay7 {m0 : gx_M} {n : Nat} (hn : 1 ≤ n ∧ n ≤ 6) (hQ : ∀ v m', gs_st m0 n m' → gs_ok n (-1) m' → Q (some v) m') : ∀ (j : Nat) (s : Int) (m : gx_M), 256 - s = j → 0 ≤ s → gs_st m0 n m → (∀ s' : Int, 0 ≤ s' → s' < s → 0 ≤ m 114 (256 * (n : Int) + s').toNat) → gx_to xs w0 (d + 2) yp_m245 7 [(0, .inr 86), (2, .inl s)] [] m Q := by
  intro j
  induction j with
  | zero =>
    intro s m hj h0 hs hz
    have hg : 1 ≤ m 86 37 ∧ m 86 37 ≤ 6 := by rw [hs.2.2]; omega
    refine gt245_7 hs.1 (by omega) hg (fun _ => ?_) (fun c => by omega)
    rw [hs.2.2]
    exact gl_lay43 hn hQ n _ m (by omega) (by omega) hs ⟨fun s' h1 h2 => hz s' h1 (by omega), fun k' h1 h2 => by omega⟩
  | succ j ih =>
    intro s m hj h0 hs hz
    have hg : 1 ≤ m 86 37 ∧ m 86 37 ≤ 6 := by rw [hs.2.2]; omega
    refine gt245_7 hs.1 (by omega) hg (fun c => by omega) (fun c => ih (s + 1) _ (by omega) (by omega) (gs_w hs (by omega) (by omega) (by omega)) (fun s' h1 h2 => ?_))
    rw [hs.2.2]
    by_cases e : s' = s
    · rw [e, gx_u_self]; exact Int.le_refl _
    · rw [gx_u_ne (fun e => by omega)]
      exact hz s' h1 (by omega)
theorem gc_laysSold {n : Nat} (hn : 1 ≤ n ∧ n ≤ 6) (hI : gx_I m) (h37 : m 86 37 = n) {people : Int} (hp : -2147483648 ≤ people ∧ people ≤ 2147483647) (hQ : ∀ v m', gs_st m n m' → gs_ok n (-1) m' → Q (some v) m') : gx_to xs w0 (d + 2) yp_m245 0 [(0, .inr 86), (1, .inl people)] [] m Q :=
  gt245_0 (by omega) (gl_lay7 hn hQ 256 0 _ (by omega) (by omega) ⟨gx_I_w hI 86 (z := 38) 38 38 (-2147483648) 2147483647 (by decide +kernel) (by omega) (by omega) hp.1 hp.2, gx_fw.rf.w ⟨(86, 38, 39), by simp [gx_lay], rfl, Nat.le_refl _, by decide⟩, by rw [gx_u_ne (by decide)]; exact h37⟩ (fun s' h1 h2 => by omega))
theorem gl_gets16 {n : Nat} (hn : 1 ≤ n ∧ n ≤ 6) (hI : gx_I m) {pl k s t : Int} (hpl : 0 ≤ pl ∧ pl ≤ 5) (hk : 0 ≤ k ∧ k ≤ 5) (hs : 0 ≤ s ∧ s ≤ 255) (ht : 0 ≤ t ∧ t ≤ 8) (hat : gs_by m k t s = m 114 (256 * k + s).toNat) (hQ : ∀ p s' : Int, 0 ≤ p → p ≤ 8 → 0 ≤ s' → s' ≤ 255 → gx_to xs w0 (d + 2) yp_m247 8 [(0, .inr 86), (1, .inl pl), (2, .inl s'), (3, .inl p), (4, .inl (k + 1))] [] m Q) : ∀ (j : Nat) (p : Int), t - p = j → 0 ≤ p → p ≤ t → gx_to xs w0 (d + 2) yp_m247 16 [(0, .inr 86), (1, .inl pl), (2, .inl s), (3, .inl p), (4, .inl k)] [] m Q := by
  intro j
  induction j with
  | zero =>
    intro p hj h0 hle
    have e : p = t := by omega
    subst e
    refine gt247_16 hpl hs ht hk (gc_soldBy hI hk ht hs (gt247_24 hpl hs ht hk (fun _ c => ?_) (fun _ c => hQ _ _ ht.1 ht.2 hs.1 hs.2) (fun c => absurd hat c)))
    have hb := gx_or_bdI hs.1 hs.2 ht.1 (by omega)
    exact hQ _ _ ht.1 ht.2 hb.1 hb.2
  | succ j ih =>
    intro p hj h0 hle
    refine gt247_16 hpl hs (by omega) hk (gc_soldBy hI hk (by omega) hs (gt247_24 hpl hs (by omega) hk (fun _ c => ?_) (fun _ c => hQ _ _ h0 (by omega) hs.1 hs.2) (fun _ => ih (p + 1) (by omega) (by omega) (by omega))))
    have hb := gx_or_bdI hs.1 hs.2 h0 (by omega)
    exact hQ _ _ h0 (by omega) hb.1 hb.2
theorem gl_gets8 {n : Nat} (hn : 1 ≤ n ∧ n ≤ 6) (hI : gx_I m) (hok : gs_ok n (-1) m) {pl : Int} (hpl : 0 ≤ pl ∧ pl < n) (hQ : ∀ p : Int, Q (some p) m) : ∀ (j : Nat) (k s p : Int), pl + 1 - k = j → 0 ≤ k → 0 ≤ s → s ≤ 255 → gx_to xs w0 (d + 2) yp_m247 8 [(0, .inr 86), (1, .inl pl), (2, .inl s), (3, .inl p), (4, .inl k)] [] m Q := by
  intro j
  induction j with
  | zero => exact fun k s p hj h0 h1 h2 => gt247_8 (by omega) (by omega) (by omega) (fun _ => hQ p) (fun c => by omega)
  | succ j ih =>
    intro k s p hj h0 h1 h2
    refine gt247_8 (by omega) (by omega) (by omega) (fun c => by omega) (fun c => ?_)
    obtain ⟨-, t, g1, g2, g3⟩ := hok.2 k (by omega) (by omega) s h1 h2
    exact gl_gets16 hn hI (by omega) (by omega) (by omega) (by omega) g3 (fun p' s' _ _ h3 h4 => ih (k + 1) s' p' (by omega) (by omega) h3 h4) t.toNat 0 (by omega) (by omega) g1
theorem gc_gets {n : Nat} (hn : 1 ≤ n ∧ n ≤ 6) (hI : gx_I m) (hok : gs_ok n (-1) m) {pl : Int} (hpl : 0 ≤ pl ∧ pl < n) (hQ : ∀ p : Int, Q (some p) m) : gx_to xs w0 (d + 2) yp_m247 0 [(0, .inr 86), (1, .inl pl)] [] m Q :=
  gt247_0 (gl_gets8 hn hI hok hpl hQ (pl + 1).toNat 0 0 8 (by omega) (by omega) (by omega) (by omega))
theorem gl_pays {m0 : gx_M} {n : Nat} (hn : 1 ≤ n ∧ n ≤ 6) (hs : gs_st m0 n m) (hok : gs_ok n (-1) m) {people p all : Int} (hp : 0 ≤ p ∧ p ≤ 7) (hQ : ∀ v m', gs_st m0 n m' → Q (some v) m') : ∀ (j : Nat) (own k : Int), n - k = j → 0 ≤ k → gx_to xs w0 (d + 3) yp_m244 12 [(0, .inr 86), (1, .inl people), (2, .inl p), (3, .inl all), (4, .inl own), (5, .inl k)] [] m Q := by
  have h37 := hs.2.2
  have hlast : gx_to xs w0 (d + 2) yp_m245 0 [(0, .inr 86), (1, .inl (gx_and people (gx_xor (gx_shl 1 p) (-1))))] [] m (fun r m' => ∃ v, r = some v ∧ gs_st m0 n m') := gc_laysSold hn hs.1 h37 ⟨ax_lo _, ax_hi _⟩ (fun v m' g1 _ => ⟨v, rfl, g1.1, hs.2.1.tr g1.2.1, g1.2.2⟩)
  intro j
  induction j with
  | zero =>
    intro own k hj h0
    exact gt244_12 hs.1 hp (by omega) (fun _ => gx_to_mono hlast (fun r m' ⟨v, e, g⟩ => by subst e; exact gt244_69 (hQ _ m' g))) (fun c => by omega)
  | succ j ih =>
    intro own k hj h0
    exact gt244_12 hs.1 hp (by omega) (fun c => by omega) (fun c => gc_gets hn hs.1 hok (by omega) (fun q => gt244_29 hs.1 hp (by omega) (fun _ => ih _ (k + 1) (by omega) (by omega)) (fun _ => ih _ (k + 1) (by omega) (by omega))))
theorem gc_pays {n : Nat} (hn : 1 ≤ n ∧ n ≤ 6) (hI : gx_I m) (h37 : m 86 37 = n) {people p : Int} (hpp : -2147483648 ≤ people ∧ people ≤ 2147483647) (hp : 0 ≤ p ∧ p ≤ 7) (hQ : ∀ v m', gs_st m n m' → Q (some v) m') : gx_to xs w0 (d + 3) yp_m244 0 [(0, .inr 86), (1, .inl people), (2, .inl p)] [] m Q :=
  gt244_0 hp (gc_laysSold hn hI h37 hpp (fun v m' g1 g2 => gt244_5 hp (gl_pays hn g1 g2 hp (fun v m'' g3 => hQ v m'' g3) n 0 0 (by omega) (by omega))))
end GSD
