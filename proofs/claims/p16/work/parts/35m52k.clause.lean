/-! clauses as the reference reads them; its law as a whole -/
def rS0 (T : Nat → Int) (L p : Nat) (K : hCode) (m : gx_M) : Prop := rTx T L p m ∧ rKd K m ∧ p ≤ L ∧ L ≤ 240 ∧ K.length ≤ 240
def rCl (CL : List hCl) (m : gx_M) : Prop := m 86 12 = (CL.length : Int) ∧ ∀ i c, CL[i]? = some c → m 93 i = c.1 ∧ m 94 i = (c.2.1 : Int) ∧ m 95 i = (c.2.2.1 : Int) ∧ m 96 i = (c.2.2.2 : Int)
def rFz (m0 m : gx_M) : Prop := (∀ c, c ≠ 86 → c ≠ 91 → c ≠ 92 → c ≠ 93 → c ≠ 94 → c ≠ 95 → c ≠ 96 → m c = m0 c) ∧ ∀ k, k ≠ 5 → k ≠ 7 → k ≠ 8 → k ≠ 9 → k ≠ 10 → k ≠ 11 → k ≠ 12 → m 86 k = m0 86 k
theorem rFz_t {m m1 m2 : gx_M} (h : rFz m m1) (h' : rFz m1 m2) : rFz m m2 := ⟨fun c a b d e f g i => (h'.1 c a b d e f g i).trans (h.1 c a b d e f g i), fun k a b c d e f g => (h'.2 k a b c d e f g).trans (h.2 k a b c d e f g)⟩
theorem rS0_of {T : Nat → Int} {L p o : Nat} {m0 m : gx_M} {K W : hCode} (h : rS T L m0 p K W o m) : rS0 T L p K m := ⟨h.1, h.2.1, h.2.2.2.2.2.1, h.2.2.2.2.2.2.1, h.2.2.2.2.2.2.2.1⟩
section RK
variable {xs : List Int32} {n : Nat} {Q : hQ} {T : Nat → Int} {L p : Nat} {m0 m : gx_M} {K : hCode} {CL : List hCl}
theorem r0_he (hS : rS0 T L p K m) : aHere m = tx T L p := by
  obtain ⟨⟨t1, t2, t3⟩, -, b1, -⟩ := hS
  unfold aHere
  rw [t1, t2]
  by_cases c : p < L
  · rw [if_neg (by omega), Int.toNat_natCast, t3 p c, tx_eq c]
  · rw [if_pos (by omega), tx_no (by omega)]
theorem r0_172 (hS : rS0 T L p K m) {a : Int} (ha : 0 ≤ a ∧ a ≤ 9) (h : ∀ m', m' 86 7 = lfl a p → rFz m m' → Q (some (.inl 0)) m') : hxn xs n yp_m172 0 [(0, .inr (.inl 86)), (1, .inl a), (2, .inl (p : Int))] [] m Q := by
  obtain ⟨-, -, b1, b2, -⟩ := hS
  refine hx_dn (hs172 (h _ ?_ ⟨fun c c1 _ _ _ _ _ _ => ?_, fun k _ k2 _ _ _ _ _ => ?_⟩))
  · rw [gx_u_self, gx_w_id (x := (-1000) * a) (by omega) (by omega), gx_w_id (by omega) (by omega)]
    rfl
  · funext k
    rw [gx_u_ne (by omega)]
  · rw [gx_u_ne (by omega)]
/-- behind a clause's letter -/
theorem r_kd {j : Nat} {M : gx_M} (hS : rS0 T L p K m) (hlt : p < L) (hM : M = gx_u (gx_u (gx_u (gx_u (gx_u m 93 j (tx T L p)) 86 5 (gx_w ((m 86 5) + 1))) 94 j (m 86 10)) 86 9 0) 86 11 0) : rS T L M (p + 1) K [] 0 M ∧ M 93 j = tx T L p ∧ M 94 j = (K.length : Int) ∧ (∀ c k, c ≠ 86 → ¬ (k = j ∧ (c = 93 ∨ c = 94)) → M c k = m c k) ∧ ∀ k, k ≠ 5 → k ≠ 9 → k ≠ 11 → M 86 k = m 86 k := by
  obtain ⟨⟨t1, t2, t3⟩, ⟨k1, k2⟩, b1, b2, b3⟩ := hS
  refine ⟨⟨⟨?_, ?_, fun k hk => ?_⟩, ⟨?_, fun i c hc => ?_⟩, ⟨?_, fun i q hq => by cases hq⟩, ?_, ⟨fun _ _ _ _ => rfl, fun _ _ _ _ _ _ _ => rfl⟩, hlt, b2, b3, by decide, by decide⟩, ?_, ?_, fun c k c1 c2 => ?_, fun k k1 k2 k3 => ?_⟩
  · rw [hM, gx_u_ne (by omega), gx_u_ne (by omega), gx_u_ne (by omega), gx_u_self, t1, gx_w_id (by omega) (by omega)]
    omega
  · rw [hM, gx_u_ne (by omega), gx_u_ne (by omega), gx_u_ne (by omega), gx_u_ne (by omega), gx_u_ne (by omega)]
    exact t2
  · rw [hM, gx_u_ne (by omega), gx_u_ne (by omega), gx_u_ne (by omega), gx_u_ne (by omega), gx_u_ne (by omega)]
    exact t3 k hk
  · rw [hM, gx_u_ne (by omega), gx_u_ne (by omega), gx_u_ne (by omega), gx_u_ne (by omega), gx_u_ne (by omega)]
    exact k1
  · rw [hM, gx_u_ne (by omega), gx_u_ne (by omega), gx_u_ne (by omega), gx_u_ne (by omega), gx_u_ne (by omega)]
    exact k2 i c hc
  · rw [hM, gx_u_self]
    rfl
  · rw [hM, gx_u_ne (by omega), gx_u_self]
    rfl
  · rw [hM, gx_u_ne (by omega), gx_u_ne (by omega), gx_u_ne (by omega), gx_u_ne (by omega), gx_u_self]
  · rw [hM, gx_u_ne (by omega), gx_u_ne (by omega), gx_u_self]
    exact k1
  · rw [hM, gx_u_ne (by omega), gx_u_ne (by omega), gx_u_ne (by omega), gx_u_ne (by omega), gx_u_ne (by omega)]
  · rw [hM, gx_u_ne (by omega), gx_u_ne (by omega), gx_u_ne (by omega), gx_u_ne (by omega), gx_u_ne (by omega)]
/-- its half is noted -/
theorem r_half {j : Nat} {p1 : Nat} {K1 : hCode} {m2 M : gx_M} (hS : rS T L m p1 K1 [] 0 m2) (hM : M = gx_u m2 95 j (m2 86 10)) : rS T L M p1 K1 [] 0 M ∧ M 95 j = (K1.length : Int) ∧ (∀ c k, c ≠ 86 → c ≠ 91 → c ≠ 92 → ¬ (k = j ∧ c = 95) → M c k = m c k) ∧ ∀ k, k ≠ 5 → k ≠ 7 → k ≠ 8 → k ≠ 9 → k ≠ 10 → k ≠ 11 → M 86 k = m 86 k := by
  obtain ⟨⟨t1, t2, t3⟩, ⟨k1, k2⟩, ⟨w1, w2⟩, o1, ⟨f1, f2⟩, b⟩ := hS
  refine ⟨⟨⟨?_, ?_, fun k hk => ?_⟩, ⟨?_, fun i c hc => ?_⟩, ⟨?_, fun i q hq => by cases hq⟩, ?_, ⟨fun _ _ _ _ => rfl, fun _ _ _ _ _ _ _ => rfl⟩, b⟩, ?_, fun c k c1 c2 c3 c4 => ?_, fun k a1 a2 a3 a4 a5 a6 => ?_⟩
  · rw [hM, gx_u_ne (by omega)]
    exact t1
  · rw [hM, gx_u_ne (by omega)]
    exact t2
  · rw [hM, gx_u_ne (by omega)]
    exact t3 k hk
  · rw [hM, gx_u_ne (by omega)]
    exact k1
  · rw [hM, gx_u_ne (by omega)]
    exact k2 i c hc
  · rw [hM, gx_u_ne (by omega)]
    exact w1
  · rw [hM, gx_u_ne (by omega)]
    exact o1
  · rw [hM, gx_u_self]
    exact k1
  · rw [hM, gx_u_ne (by omega)]
    exact congrFun (f1 c c1 c2 c3) k
  · rw [hM, gx_u_ne (by omega)]
    exact f2 k a1 a2 a3 a4 a5 a6
/-- a clause's end -/
theorem r_done {j p' : Nat} {K1 K' : hCode} {M m4 : gx_M} (hC : rCl CL m) (hj : j = CL.length) (hj16 : j < 16) (e93 : M 93 j = tx T L p) (e94 : M 94 j = (K.length : Int)) (e95 : M 95 j = (K1.length : Int)) (fM : ∀ c k, c ≠ 86 → c ≠ 91 → c ≠ 92 → ¬ (k = j ∧ (c = 93 ∨ c = 94 ∨ c = 95)) → M c k = m c k) (fM2 : ∀ k, k ≠ 5 → k ≠ 7 → k ≠ 8 → k ≠ 9 → k ≠ 10 → k ≠ 11 → M 86 k = m 86 k) (hS : rS T L M p' K' [] 0 m4) (h : ∀ m', rS0 T L p' K' m' → rCl (CL ++ [(tx T L p, K.length, K1.length, K'.length)]) m' → rFz m m' → Q (some (.inl 1)) m') : hxn xs n yp_m169 116 [(0, .inr (.inl 86))] [.inl 1] m4 Q := by
  obtain ⟨⟨t1, t2, t3⟩, ⟨k1, k2⟩, ⟨w1, w2⟩, o1, ⟨f1, f2⟩, b1, b2, b3, b4, b5⟩ := hS
  have e12 : m4 86 12 = (j : Int) := by
    rw [f2 12 (by decide) (by decide) (by decide) (by decide) (by decide) (by decide), fM2 12 (by decide) (by decide) (by decide) (by decide) (by decide) (by decide), hC.1, hj]
  refine hx_dn (hr169_116 (fun _ => ?_) (fun c => absurd c (by decide)))
  rw [e12, Int.toNat_natCast, k1, gx_w_id (by omega) (by omega)]
  refine h _ ⟨⟨?_, ?_, fun k hk => ?_⟩, ⟨?_, fun i c hc => ?_⟩, b1, b2, b3⟩ ⟨?_, fun i c hc => ?_⟩ ⟨fun c c1 c2 c3 c4 c5 c6 c7 => ?_, fun k a1 a2 a3 a4 a5 a6 a7 => ?_⟩
  · rw [gx_u_ne (by omega), gx_u_ne (by omega)]
    exact t1
  · rw [gx_u_ne (by omega), gx_u_ne (by omega)]
    exact t2
  · rw [gx_u_ne (by omega), gx_u_ne (by omega)]
    exact t3 k hk
  · rw [gx_u_ne (by omega), gx_u_ne (by omega)]
    exact k1
  · rw [gx_u_ne (by omega), gx_u_ne (by omega)]
    exact k2 i c hc
  · rw [gx_u_self, List.length_append, List.length_singleton]
    omega
  · rcases lg_app hc with hc | ⟨rfl, rfl⟩
    · have hlt := lg_lt hc
      obtain ⟨q1, q2, q3, q4⟩ := hC.2 i c hc
      have st : ∀ d, d = 93 ∨ d = 94 ∨ d = 95 ∨ d = 96 → m4 d i = m d i := fun d hd => by
        rw [congrFun (f1 d (by omega) (by omega) (by omega)) i, fM d i (by omega) (by omega) (by omega) (by omega)]
      refine ⟨?_, ?_, ?_, ?_⟩
      · rw [gx_u_ne (by omega), gx_u_ne (by omega), st 93 (by decide)]
        exact q1
      · rw [gx_u_ne (by omega), gx_u_ne (by omega), st 94 (by decide)]
        exact q2
      · rw [gx_u_ne (by omega), gx_u_ne (by omega), st 95 (by decide)]
        exact q3
      · rw [gx_u_ne (by omega), gx_u_ne (by omega), st 96 (by decide)]
        exact q4
    · subst hj
      refine ⟨?_, ?_, ?_, ?_⟩
      · rw [gx_u_ne (by omega), gx_u_ne (by omega), congrFun (f1 93 (by decide) (by decide) (by decide)) _]
        exact e93
      · rw [gx_u_ne (by omega), gx_u_ne (by omega), congrFun (f1 94 (by decide) (by decide) (by decide)) _]
        exact e94
      · rw [gx_u_ne (by omega), gx_u_ne (by omega), congrFun (f1 95 (by decide) (by decide) (by decide)) _]
        exact e95
      · rw [gx_u_ne (by omega), gx_u_self]
  · funext k
    rw [gx_u_ne (by omega), gx_u_ne (by omega), congrFun (f1 c c1 c2 c3) k, fM c k c1 c2 c3 (by omega)]
  · rw [gx_u_ne (by omega), gx_u_ne (by omega), f2 k a1 a2 a3 a4 a5 a6, fM2 k a1 a2 a3 a4 a5 a6]
theorem r169T {j p' : Nat} {K' : hCode} {c : hCl} (hS : rS0 T L p K m) (hC : rCl CL m) (hj : j = CL.length) (hj16 : j < 16) (hk : K.length ≤ p) (hc : lCl T L p K p' K' c) (h : ∀ m', rS0 T L p' K' m' → rCl (CL ++ [c]) m' → rFz m m' → Q (some (.inl 1)) m') : hxn xs n yp_m169 0 [(0, .inr (.inl 86))] [] m Q := by
  obtain ⟨hkd, p1, K1, p2, hh, h40, hd, h41, rfl, rfl⟩ := hc
  have hhe := r0_he hS
  have hlt : p < L := tx_lt (fun e => by rw [e] at hkd; unfold isKd at hkd; omega)
  have e12 : m 86 12 = (j : Int) := by rw [hC.1, hj]
  obtain ⟨M1, hM1⟩ : ∃ M, M = gx_u (gx_u (gx_u (gx_u (gx_u m 93 j (tx T L p)) 86 5 (gx_w ((m 86 5) + 1))) 94 j (m 86 10)) 86 9 0) 86 11 0 := ⟨_, rfl⟩
  obtain ⟨s1, e93, e94, f1, f2⟩ := r_kd hS hlt hM1
  refine hx_dn (hr169_0 (fun _ _ c => ?_) (fun _ _ c => ?_) (fun _ c => absurd c (by omega)) (fun c => absurd (by rw [hhe]; exact hkd) c))
  · rw [hhe] at c ⊢
    rcases hh with ⟨-, rfl, rfl⟩ | ⟨c', -⟩
    · rw [e12, Int.toNat_natCast, ← hM1]
      have e10 : M1 86 10 = m 86 10 := f2 10 (by decide) (by decide) (by decide)
      obtain ⟨M2, hM2⟩ : ∃ M, M = gx_u M1 95 j (M1 86 10) := ⟨_, rfl⟩
      obtain ⟨s2, e95, g1, g2⟩ := r_half s1 hM2
      rw [← e10, ← hM2]
      refine r_conT hd h40 h41 s2 (by omega) (fun m4 s4 => ?_)
      show hxn xs n yp_m169 116 _ [.inl 1] m4 Q
      refine r_done hC hj hj16 (by rw [g1 93 j (by decide) (by decide) (by decide) (by omega)]; exact e93) (by rw [g1 94 j (by decide) (by decide) (by decide) (by omega)]; exact e94) e95 (fun c k a1 a2 a3 a4 => ?_) (fun k a1 a2 a3 a4 a5 a6 => ?_) s4 h
      · rw [g1 c k a1 a2 a3 (by omega), f1 c k a1 (by omega)]
      · rw [g2 k a1 a2 a3 a4 a5 a6, f2 k a1 a4 a6]
    · exact absurd c c'
  · rw [hhe] at c ⊢
    rcases hh with ⟨c', -⟩ | ⟨-, hd1, hsm⟩
    · exact absurd c' c
    · have hg := lD_grow hd1
      rw [e12, Int.toNat_natCast, ← hM1]
      refine r_sumT hd1 hsm s1 (by omega) (by decide) (by decide) (fun m2 s2 => ?_)
      show hxn xs n yp_m169 94 _ [.inl 1] m2 Q
      refine hx_dn (hr169_94 (fun _ => ?_) (fun c => absurd c (by decide)))
      have e12b : m2 86 12 = (j : Int) := by
        rw [(rs_fr s2).2 12 (by decide) (by decide) (by decide) (by decide) (by decide) (by decide), f2 12 (by decide) (by decide) (by decide)]
        exact e12
      obtain ⟨M2, hM2⟩ : ∃ M, M = gx_u m2 95 j (m2 86 10) := ⟨_, rfl⟩
      obtain ⟨s3, e95, g1, g2⟩ := r_half s2 hM2
      rw [e12b, Int.toNat_natCast, ← hM2]
      refine r_conT hd h40 h41 s3 (by omega) (fun m4 s4 => ?_)
      show hxn xs n yp_m169 116 _ [.inl 1] m4 Q
      refine r_done hC hj hj16 (by rw [g1 93 j (by decide) (by decide) (by decide) (by omega)]; exact e93) (by rw [g1 94 j (by decide) (by decide) (by decide) (by omega)]; exact e94) e95 (fun c k a1 a2 a3 a4 => ?_) (fun k a1 a2 a3 a4 a5 a6 => ?_) s4 h
      · rw [g1 c k a1 a2 a3 (by omega), f1 c k a1 (by omega)]
      · rw [g2 k a1 a2 a3 a4 a5 a6, f2 k a1 a4 a6]
theorem r169F {j : Nat} {f : Int} (hS : rS0 T L p K m) (hC : rCl CL m) (hj : j = CL.length) (hj16 : j ≤ 16) (hk : K.length ≤ p) (hc : lCF T L j p K f) (h : ∀ m', m' 86 7 = f → rFz m m' → Q (some (.inl 0)) m') : hxn xs n yp_m169 0 [(0, .inr (.inl 86))] [] m Q := by
  have hhe := r0_he hS
  have hpl : m 86 5 = (p : Int) := hS.1.1
  have e12 : m 86 12 = (j : Int) := by rw [hC.1, hj]
  obtain ⟨M1, hM1⟩ : ∃ M, M = gx_u (gx_u (gx_u (gx_u (gx_u m 93 j (tx T L p)) 86 5 (gx_w ((m 86 5) + 1))) 94 j (m 86 10)) 86 9 0) 86 11 0 := ⟨_, rfl⟩
  have fz1 : ∀ {M m4 : gx_M}, p < L → (∀ c k, c ≠ 86 → c ≠ 91 → c ≠ 92 → c ≠ 95 → M c k = M1 c k) → (∀ k, k ≠ 5 → k ≠ 7 → k ≠ 8 → k ≠ 9 → k ≠ 10 → k ≠ 11 → M 86 k = M1 86 k) → rF M f m4 → rFz m m4 := fun {M m4} hlt a b hF => by
    obtain ⟨-, -, -, f1, f2⟩ := r_kd hS hlt hM1
    refine ⟨fun c c1 c2 c3 c4 c5 c6 c7 => ?_, fun k a1 a2 a3 a4 a5 a6 a7 => ?_⟩
    · funext k
      rw [congrFun (hF.2.1 c c1 c2 c3) k, a c k c1 c2 c3 c6, f1 c k c1 (by omega)]
    · rw [hF.2.2 k a1 a2 a3 a4 a5 a6, b k a1 a2 a3 a4 a5 a6, f2 k a1 a4 a6]
  have hltk : isKd (tx T L p) → p < L := fun hkd => tx_lt (fun e => by rw [e] at hkd; unfold isKd at hkd; omega)
  rcases hc with ⟨nk, rfl⟩ | ⟨hkd, h16, rfl⟩ | ⟨hkd, hlt, h110, hE⟩ | ⟨hkd, hlt, p1, K1, hh, hb⟩
  · refine hx_dn (hr169_0 (fun c => absurd (by rw [← hhe]; exact c) nk) (fun c => absurd (by rw [← hhe]; exact c) nk) (fun c => absurd (by rw [← hhe]; exact c) nk) (fun _ => ?_))
    rw [hpl]
    exact r0_172 hS (by decide) (fun m1 a b => hx_dn (hr169_21 (h m1 a b)))
  · refine hx_dn (hr169_0 (fun _ c => absurd (by omega) c) (fun _ c => absurd (by omega) c) (fun _ _ => ?_) (fun c => absurd (by rw [hhe]; exact hkd) c))
    rw [hpl]
    exact r0_172 hS (by decide) (fun m1 a b => hx_dn (hr169_40 (h m1 a b)))
  · obtain ⟨s1, -, -, f1, f2⟩ := r_kd hS (hltk hkd) hM1
    refine hx_dn (hr169_0 (fun _ _ c => absurd (by rw [← hhe]; exact c) h110) (fun _ _ c => ?_) (fun _ c => absurd c (by omega)) (fun c => absurd (by rw [hhe]; exact hkd) c))
    rw [hhe, e12, Int.toNat_natCast, ← hM1]
    refine r_sumF hE s1 (by omega) (by decide) (by decide) (fun m2 hF => ?_)
    show hxn xs n yp_m169 94 _ [.inl 0] m2 Q
    exact hx_dn (hr169_94 (fun c => absurd rfl c) (fun _ => h m2 hF.1 (fz1 (hltk hkd) (fun _ _ _ _ _ _ => rfl) (fun _ _ _ _ _ _ _ => rfl) hF)))
  · obtain ⟨s1, -, -, f1, f2⟩ := r_kd hS (hltk hkd) hM1
    refine hx_dn (hr169_0 (fun _ _ c => ?_) (fun _ _ c => ?_) (fun _ c => absurd c (by omega)) (fun c => absurd (by rw [hhe]; exact hkd) c))
    · rw [hhe] at c ⊢
      rcases hh with ⟨-, rfl, rfl⟩ | ⟨c', -⟩
      · rw [e12, Int.toNat_natCast, ← hM1]
        have e10 : M1 86 10 = m 86 10 := f2 10 (by decide) (by decide) (by decide)
        obtain ⟨M2, hM2⟩ : ∃ M, M = gx_u M1 95 j (M1 86 10) := ⟨_, rfl⟩
        obtain ⟨s2, e95, g1, g2⟩ := r_half s1 hM2
        rw [← e10, ← hM2]
        refine r_conF hb s2 (by omega) (fun m4 hF => ?_)
        show hxn xs n yp_m169 116 _ [.inl 0] m4 Q
        exact hx_dn (hr169_116 (fun c => absurd rfl c) (fun _ => h m4 hF.1 (fz1 (hltk hkd) (fun c k a1 a2 a3 a4 => g1 c k a1 a2 a3 (by omega)) g2 hF)))
      · exact absurd c c'
    · rw [hhe] at c ⊢
      rcases hh with ⟨c', -⟩ | ⟨-, hd1, hsm⟩
      · exact absurd c' c
      · have hg := lD_grow hd1
        rw [e12, Int.toNat_natCast, ← hM1]
        refine r_sumT hd1 hsm s1 (by omega) (by decide) (by decide) (fun m2 s2 => ?_)
        show hxn xs n yp_m169 94 _ [.inl 1] m2 Q
        refine hx_dn (hr169_94 (fun _ => ?_) (fun c => absurd c (by decide)))
        have e12b : m2 86 12 = (j : Int) := by
          rw [(rs_fr s2).2 12 (by decide) (by decide) (by decide) (by decide) (by decide) (by decide), f2 12 (by decide) (by decide) (by decide)]
          exact e12
        obtain ⟨M2, hM2⟩ : ∃ M, M = gx_u m2 95 j (m2 86 10) := ⟨_, rfl⟩
        obtain ⟨s3, e95, g1, g2⟩ := r_half s2 hM2
        rw [e12b, Int.toNat_natCast, ← hM2]
        refine r_conF hb s3 (by omega) (fun m4 hF => ?_)
        show hxn xs n yp_m169 116 _ [.inl 0] m4 Q
        exact hx_dn (hr169_116 (fun c => absurd rfl c) (fun _ => h m4 hF.1 (fz1 (hltk hkd) (fun c k a1 a2 a3 a4 => g1 c k a1 a2 a3 (by omega)) g2 hF)))
/-- one clause behind another: from the first one on -/
theorem r_ls (hS : rS0 T L 0 [] m0) (hC : rCl [] m0) : ∀ {j p : Nat} {K : hCode} {CL : List hCl}, lLs T L (j + 1) p K CL → (∀ m', rS0 T L p K m' → rCl CL m' → rFz m0 m' → hxn xs n yp_m168 46 [(0, .inr (.inl 86)), (2, .inl 1)] [] m' Q) → hxn xs n yp_m169 0 [(0, .inr (.inl 86))] [] m0 (fun r m' => hxn xs n yp_m168 45 [(0, .inr (.inl 86))] (hrs r ++ []) m' Q)
  | 0, p, K, CL, hl, h => by
    obtain ⟨p0, K0, CL0, ps, c, ⟨rfl, rfl, rfl⟩, hs, -, hc, rfl⟩ := hl
    have hps : ps = 0 := by
      rcases hs with ⟨-, e⟩ | ⟨e, -⟩
      · exact e
      · exact absurd rfl e
    subst hps
    refine r169T hS hC rfl (by decide) (Nat.le_refl _) hc (fun m' s' c' f' => ?_)
    show hxn xs n yp_m168 45 _ [.inl 1] m' Q
    exact hx_dn (hr168_45 (h m' s' c' f'))
  | j + 1, p, K, CL, hl, h => by
    obtain ⟨p0, K0, CL0, ps, c, hl0, hs, hj16, hc, rfl⟩ := hl
    have h59 : tx T L p0 = 59 ∧ ps = p0 + 1 := by
      rcases hs with ⟨e, -⟩ | ⟨-, a, b⟩
      · exact absurd e (by omega)
      · exact ⟨a, b⟩
    obtain ⟨h59, rfl⟩ := h59
    have hlt : p0 < L := tx_lt (by rw [h59]; decide)
    refine r_ls hS hC hl0 (fun m1 s1 c1 f1 => ?_)
    have he1 := r0_he s1
    obtain ⟨⟨t1, t2, t3⟩, ⟨k1, k2⟩, b1, b2, b3⟩ := s1
    refine hx_dn (hr168_46 (fun c => absurd c (by decide)) (fun _ c => absurd c (by omega)) (fun _ c => absurd c (by omega)) (fun _ _ => ?_))
    refine hx_dn (hr189_0 (fun _ => ?_) (fun c => absurd (by rw [he1]; exact h59) c))
    rw [t1, gx_w_id (by omega) (by omega)]
    show hxn xs n yp_m168 67 _ [.inl 1] _ Q
    refine hx_dn (hr168_67 (fun c => absurd c (by decide)) (fun _ => ?_))
    have s2 : rS0 T L (p0 + 1) K0 (gx_u m1 86 5 ((p0 : Int) + 1)) := by
      refine ⟨⟨?_, ?_, fun k hk => ?_⟩, ⟨?_, fun i c hc => ?_⟩, hlt, b2, b3⟩
      · rw [gx_u_self]
        omega
      · rw [gx_u_ne (by omega)]
        exact t2
      · rw [gx_u_ne (by omega)]
        exact t3 k hk
      · rw [gx_u_ne (by omega)]
        exact k1
      · rw [gx_u_ne (by omega)]
        exact k2 i c hc
    have c2 : rCl CL0 (gx_u m1 86 5 ((p0 : Int) + 1)) := by
      refine ⟨?_, fun i c hc => ?_⟩
      · rw [gx_u_ne (by omega)]
        exact c1.1
      · rw [gx_u_ne (by omega), gx_u_ne (by omega), gx_u_ne (by omega), gx_u_ne (by omega)]
        exact c1.2 i c hc
    have f2 : rFz m1 (gx_u m1 86 5 ((p0 : Int) + 1)) := by
      refine ⟨fun c c1 _ _ _ _ _ _ => ?_, fun k k1 _ _ _ _ _ _ => ?_⟩
      · funext k
        rw [gx_u_ne (by omega)]
      · rw [gx_u_ne (by omega)]
    have hkl := lLs_kl hl0
    refine r169T s2 c2 (lLs_len hl0).symm hj16 (by omega) hc (fun m3 s3 c3 f3 => ?_)
    show hxn xs n yp_m168 74 _ [.inl 1] m3 Q
    exact hx_dn (hr168_74 (fun c => absurd c (by decide)) (fun _ => h m3 s3 c3 (rFz_t f1 (rFz_t f2 f3))))
/-- what the reference's law answers, and what stands then -/
def rLw (K : hCode) (CL : List hCl) (m : gx_M) : Prop := m 86 13 = (CL.length : Int) ∧ (∀ i c, K[i]? = some c → m 97 i = lenc c) ∧ ∀ i c, CL[i]? = some c → m 98 i = c.1 ∧ m 99 i = (c.2.1 : Int) ∧ m 100 i = (c.2.2.1 : Int) ∧ m 101 i = (c.2.2.2 : Int)
def rFl (m m' : gx_M) : Prop := (∀ c k, c ≠ 86 → c ≠ 91 → c ≠ 92 → c ≠ 93 → c ≠ 94 → c ≠ 95 → c ≠ 96 → m' c k = m c k) ∧ ∀ k, k ≠ 4 → k ≠ 5 → k ≠ 6 → k ≠ 7 → k ≠ 8 → k ≠ 9 → k ≠ 10 → k ≠ 11 → k ≠ 12 → m' 86 k = m 86 k
def rGl (m m' : gx_M) : Prop := (∀ c k, c ≠ 86 → c ≠ 91 → c ≠ 92 → c ≠ 93 → c ≠ 94 → c ≠ 95 → c ≠ 96 → c ≠ 97 → c ≠ 98 → c ≠ 99 → c ≠ 100 → c ≠ 101 → m' c k = m c k) ∧ ∀ k, k ≠ 4 → k ≠ 5 → k ≠ 6 → k ≠ 7 → k ≠ 8 → k ≠ 9 → k ≠ 10 → k ≠ 11 → k ≠ 12 → k ≠ 13 → m' 86 k = m 86 k
theorem rl138 {M : gx_M} (hcl : CL.length ≤ 16) (h12 : M 86 12 = (CL.length : Int)) (h : ∀ m', (∀ c k, c ≠ 98 → c ≠ 99 → c ≠ 100 → c ≠ 101 → m' c k = M c k) → (∀ i, i < CL.length → m' 98 i = M 93 i ∧ m' 99 i = M 94 i ∧ m' 100 i = M 95 i ∧ m' 101 i = M 96 i) → Q (some (.inl (CL.length : Int))) m') : ∀ e k : Nat, k + e = CL.length → ∀ m', (∀ c k, c ≠ 98 → c ≠ 99 → c ≠ 100 → c ≠ 101 → m' c k = M c k) → (∀ i, i < k → m' 98 i = M 93 i ∧ m' 99 i = M 94 i ∧ m' 100 i = M 95 i ∧ m' 101 i = M 96 i) → hxn xs n yp_m168 138 [(0, .inr (.inl 86)), (3, .inl (k : Int))] [] m' Q := by
  intro e
  induction e with
  | zero =>
    intro k hk m' f g
    have ek : k = CL.length := by omega
    have e12 : m' 86 12 = (CL.length : Int) := by rw [f 86 12 (by decide) (by decide) (by decide) (by decide)]; exact h12
    refine hx_dn (hr168_138 (by omega) (fun _ => ?_) (fun c => absurd c (by omega)))
    rw [e12]
    exact h m' f (fun i hi => g i (by omega))
  | succ e ih =>
    intro k hk m' f g
    have e12 : m' 86 12 = (CL.length : Int) := by rw [f 86 12 (by decide) (by decide) (by decide) (by decide)]; exact h12
    refine hx_dn (hr168_138 (by omega) (fun c => absurd c (by omega)) (fun _ => ?_))
    rw [Int.toNat_natCast]
    refine ih (k + 1) (by omega) _ (fun c k' a1 a2 a3 a4 => ?_) (fun i hi => ?_)
    · rw [gx_u_ne (by omega), gx_u_ne (by omega), gx_u_ne (by omega), gx_u_ne (by omega)]
      exact f c k' a1 a2 a3 a4
    · by_cases e : i = k
      · subst e
        refine ⟨?_, ?_, ?_, ?_⟩
        · rw [gx_u_ne (by omega), gx_u_ne (by omega), gx_u_ne (by omega), gx_u_self]
          exact f 93 i (by decide) (by decide) (by decide) (by decide)
        · rw [gx_u_ne (by omega), gx_u_ne (by omega), gx_u_self]
          exact f 94 i (by decide) (by decide) (by decide) (by decide)
        · rw [gx_u_ne (by omega), gx_u_self]
          exact f 95 i (by decide) (by decide) (by decide) (by decide)
        · rw [gx_u_self]
          exact f 96 i (by decide) (by decide) (by decide) (by decide)
      · rw [gx_u_ne (by omega), gx_u_ne (by omega), gx_u_ne (by omega), gx_u_ne (by omega), gx_u_ne (by omega), gx_u_ne (by omega), gx_u_ne (by omega), gx_u_ne (by omega), gx_u_ne (by omega), gx_u_ne (by omega), gx_u_ne (by omega), gx_u_ne (by omega), gx_u_ne (by omega), gx_u_ne (by omega), gx_u_ne (by omega), gx_u_ne (by omega)]
        exact g i (by omega)
theorem rl110 {M : gx_M} (hkl : K.length ≤ 240) (h10 : M 86 10 = (K.length : Int)) (h : ∀ m', (∀ c k, c ≠ 97 → m' c k = M c k) → (∀ i, i < K.length → m' 97 i = M 91 i) → hxn xs n yp_m168 138 [(0, .inr (.inl 86)), (3, .inl 0)] [] m' Q) : ∀ e k : Nat, k + e = K.length → ∀ m', (∀ c k, c ≠ 97 → m' c k = M c k) → (∀ i, i < k → m' 97 i = M 91 i) → hxn xs n yp_m168 110 [(0, .inr (.inl 86)), (3, .inl (k : Int))] [] m' Q := by
  intro e
  induction e with
  | zero =>
    intro k hk m' f g
    have e10 : m' 86 10 = (K.length : Int) := by rw [f 86 10 (by decide)]; exact h10
    refine hx_dn (hr168_110 (by omega) (fun _ => ?_) (fun c => absurd c (by omega)))
    exact h m' f (fun i hi => g i (by omega))
  | succ e ih =>
    intro k hk m' f g
    have e10 : m' 86 10 = (K.length : Int) := by rw [f 86 10 (by decide)]; exact h10
    refine hx_dn (hr168_110 (by omega) (fun c => absurd c (by omega)) (fun _ => ?_))
    rw [Int.toNat_natCast]
    refine ih (k + 1) (by omega) _ (fun c k' a1 => ?_) (fun i hi => ?_)
    · rw [gx_u_ne (by omega)]
      exact f c k' a1
    · by_cases e : i = k
      · subst e
        rw [gx_u_self]
        exact f 91 i (by decide)
      · rw [gx_u_ne (by omega)]
        exact g i (by omega)
/-- the text's beginning -/
theorem r_st0 {N : Nat} {M : gx_M} (hT : ∀ k, k < N → gx_and (m 90 k) 255 = T k) (hN : N ≤ 240) (hM : M = gx_u (gx_u (gx_u (gx_u m 86 5 0) 86 6 (N : Int)) 86 10 0) 86 12 0) : rS0 T N 0 [] M ∧ rCl [] M ∧ (∀ c k, c ≠ 86 → M c k = m c k) ∧ ∀ k, k ≠ 5 → k ≠ 6 → k ≠ 10 → k ≠ 12 → M 86 k = m 86 k := by
  refine ⟨⟨⟨?_, ?_, fun k hk => ?_⟩, ⟨?_, fun i c hc => by cases hc⟩, Nat.zero_le _, hN, by decide⟩, ⟨?_, fun i c hc => by cases hc⟩, fun c k c1 => ?_, fun k a1 a2 a3 a4 => ?_⟩
  · rw [hM, gx_u_ne (by omega), gx_u_ne (by omega), gx_u_ne (by omega), gx_u_self]
    rfl
  · rw [hM, gx_u_ne (by omega), gx_u_ne (by omega), gx_u_self]
  · rw [hM, gx_u_ne (by omega), gx_u_ne (by omega), gx_u_ne (by omega), gx_u_ne (by omega)]
    exact hT k hk
  · rw [hM, gx_u_ne (by omega), gx_u_self]
    rfl
  · rw [hM, gx_u_self]
    rfl
  · rw [hM, gx_u_ne (by omega), gx_u_ne (by omega), gx_u_ne (by omega), gx_u_ne (by omega)]
  · rw [hM, gx_u_ne (by omega), gx_u_ne (by omega), gx_u_ne (by omega), gx_u_ne (by omega)]
theorem r168T {N : Nat} (hN : 1 ≤ N ∧ N ≤ 240) (ht : (N : Int) ≤ m 86 4) (hT : ∀ k, k < N → gx_and (m 90 k) 255 = T k) (ok : lOk T N K CL) (h : ∀ m', rLw K CL m' → m' 86 4 = 0 → rGl m m' → Q (some (.inl (CL.length : Int))) m') : hxn xs n yp_m168 0 [(0, .inr (.inl 86)), (1, .inl (N : Int))] [] m Q := by
  obtain ⟨j, hj⟩ := ok
  have hcl := lLs_len hj
  have h16 := lLs_16 hj
  obtain ⟨M0, hM0⟩ : ∃ M, M = gx_u (gx_u (gx_u (gx_u m 86 5 0) 86 6 (N : Int)) 86 10 0) 86 12 0 := ⟨_, rfl⟩
  obtain ⟨s0, c0, f0, g0⟩ := r_st0 hT hN.2 hM0
  refine hx_dn (hr168_0 (fun _ _ => ?_) (fun _ c => absurd c (by omega)) (fun c => absurd (by omega) c))
  rw [← hM0]
  refine r_ls s0 c0 hj (fun m1 s1 c1 f1 => ?_)
  obtain ⟨⟨t1, t2, t3⟩, ⟨k1, k2⟩, b1, b2, b3⟩ := s1
  refine hx_dn (hr168_46 (fun c => absurd c (by decide)) (fun _ _ _ => ?_) (fun _ _ c => absurd c (by decide)) (fun _ c => absurd c (by omega)))
  obtain ⟨M, hM⟩ : ∃ M, M = gx_u (gx_u m1 86 4 0) 86 13 (m1 86 12) := ⟨_, rfl⟩
  rw [← hM]
  have eM : ∀ c k, ¬ (c = 86 ∧ (k = 4 ∨ k = 13)) → M c k = m1 c k := fun c k hn => by rw [hM, gx_u_ne (by omega), gx_u_ne (by omega)]
  refine rl110 (K := K) (M := M) b3 (by rw [eM 86 10 (by omega)]; exact k1) (fun m2 a2 d2 => ?_) K.length 0 (Nat.zero_add _) M (fun _ _ _ => rfl) (fun i hi => absurd hi (by omega))
  refine rl138 (CL := CL) (M := m2) (by omega) (by rw [a2 86 12 (by decide), eM 86 12 (by omega)]; exact c1.1) (fun m3 a3 d3 => ?_) CL.length 0 (Nat.zero_add _) m2 (fun _ _ _ _ _ _ => rfl) (fun i hi => absurd hi (by omega))
  refine h m3 ⟨?_, fun i c hc => ?_, fun i c hc => ?_⟩ ?_ ⟨fun c k q1 q2 q3 q4 q5 q6 q7 q8 q9 q10 q11 q12 => ?_, fun k q4 q5 q6 q7 q8 q9 q10 q11 q12 q13 => ?_⟩
  · rw [a3 86 13 (by decide) (by decide) (by decide) (by decide), a2 86 13 (by decide), hM, gx_u_self]
    exact c1.1
  · have hlt := lk_lt hc
    rw [a3 97 i (by decide) (by decide) (by decide) (by decide), d2 i hlt, eM 91 i (by omega)]
    exact k2 i c hc
  · have hlt := lg_lt hc
    obtain ⟨u1, u2, u3, u4⟩ := c1.2 i c hc
    obtain ⟨v1, v2, v3, v4⟩ := d3 i hlt
    rw [v1, v2, v3, v4, a2 93 i (by decide), a2 94 i (by decide), a2 95 i (by decide), a2 96 i (by decide), eM 93 i (by omega), eM 94 i (by omega), eM 95 i (by omega), eM 96 i (by omega)]
    exact ⟨u1, u2, u3, u4⟩
  · rw [a3 86 4 (by decide) (by decide) (by decide) (by decide), a2 86 4 (by decide), hM, gx_u_ne (by omega), gx_u_self]
  · rw [a3 c k q9 q10 q11 q12, a2 c k q8, eM c k (by omega), congrFun (f1.1 c q1 q2 q3 q4 q5 q6 q7) k, f0 c k q1]
  · rw [a3 86 k (by decide) (by decide) (by decide) (by decide), a2 86 k (by decide), eM 86 k (by omega), f1.2 k q5 q7 q8 q9 q10 q11 q12, g0 k q5 q6 q10 q12]
theorem r168F {N : Nat} {f : Int} (hN : 1 ≤ N ∧ N ≤ 240) (ht : (N : Int) ≤ m 86 4) (hT : ∀ k, k < N → gx_and (m 90 k) 255 = T k) (wr : lWr T N f) (h : ∀ m', m' 86 4 = 0 → rFl m m' → Q (some (.inl f)) m') : hxn xs n yp_m168 0 [(0, .inr (.inl 86)), (1, .inl (N : Int))] [] m Q := by
  obtain ⟨M0, hM0⟩ : ∃ M, M = gx_u (gx_u (gx_u (gx_u m 86 5 0) 86 6 (N : Int)) 86 10 0) 86 12 0 := ⟨_, rfl⟩
  obtain ⟨s0, c0, f0, g0⟩ := r_st0 hT hN.2 hM0
  have fin : ∀ m2, m2 86 7 = f → rFz M0 m2 → hxn xs n yp_m168 46 [(0, .inr (.inl 86)), (2, .inl 0)] [] m2 Q := fun m2 e7 fz => by
    have q : Q (some (.inl (m2 86 7))) (gx_u m2 86 4 0) := by
      rw [e7]
      refine h _ (by rw [gx_u_self]) ⟨fun c k q1 q2 q3 q4 q5 q6 q7 => ?_, fun k q4 q5 q6 q7 q8 q9 q10 q11 q12 => ?_⟩
      · rw [gx_u_ne (by omega), congrFun (fz.1 c q1 q2 q3 q4 q5 q6 q7) k, f0 c k q1]
      · rw [gx_u_ne (by omega), fz.2 k q5 q7 q8 q9 q10 q11 q12, g0 k q5 q6 q10 q12]
    exact hx_dn (hr168_46 (fun _ _ => q) (fun c => absurd rfl c) (fun c => absurd rfl c) (fun c => absurd rfl c))
  refine hx_dn (hr168_0 (fun _ _ => ?_) (fun _ c => absurd c (by omega)) (fun c => absurd (by omega) c))
  rw [← hM0]
  have sep : ∀ {j p0 K0 CL0}, lLs T N (j + 1) p0 K0 CL0 → p0 < N → (tx T N p0 = 59 → ∀ m2, rS0 T N (p0 + 1) K0 m2 → rCl CL0 m2 → rFz M0 m2 → hxn xs n yp_m169 0 [(0, .inr (.inl 86))] [] m2 (fun r m' => hxn xs n yp_m168 74 [(0, .inr (.inl 86))] (hrs r ++ []) m' Q)) → (tx T N p0 ≠ 59 → f = lfl 1 p0) → hxn xs n yp_m169 0 [(0, .inr (.inl 86))] [] M0 (fun r m' => hxn xs n yp_m168 45 [(0, .inr (.inl 86))] (hrs r ++ []) m' Q) := fun {j p0 K0 CL0} hl hlt g1 g2 => by
    refine r_ls s0 c0 hl (fun m1 s1 c1 f1 => ?_)
    have he1 := r0_he s1
    have s1' := s1
    obtain ⟨⟨t1, t2, t3⟩, ⟨k1, k2⟩, b1, b2, b3⟩ := s1
    refine hx_dn (hr168_46 (fun c => absurd c (by decide)) (fun _ c => absurd c (by omega)) (fun _ c => absurd c (by omega)) (fun _ _ => ?_))
    refine hx_dn (hr189_0 (fun c => ?_) (fun c => ?_))
    · rw [he1] at c
      rw [t1, gx_w_id (by omega) (by omega)]
      show hxn xs n yp_m168 67 _ [.inl 1] _ Q
      refine hx_dn (hr168_67 (fun c => absurd c (by decide)) (fun _ => ?_))
      refine g1 c _ ⟨⟨?_, ?_, fun k hk => ?_⟩, ⟨?_, fun i c hc => ?_⟩, hlt, b2, b3⟩ ⟨?_, fun i c hc => ?_⟩ ⟨fun c q1 q2 q3 q4 q5 q6 q7 => ?_, fun k q5 q7 q8 q9 q10 q11 q12 => ?_⟩
      · rw [gx_u_self]
        omega
      · rw [gx_u_ne (by omega)]
        exact t2
      · rw [gx_u_ne (by omega)]
        exact t3 k hk
      · rw [gx_u_ne (by omega)]
        exact k1
      · rw [gx_u_ne (by omega)]
        exact k2 i c hc
      · rw [gx_u_ne (by omega)]
        exact c1.1
      · rw [gx_u_ne (by omega), gx_u_ne (by omega), gx_u_ne (by omega), gx_u_ne (by omega)]
        exact c1.2 i c hc
      · funext k
        rw [gx_u_ne (by omega)]
        exact congrFun (f1.1 c q1 q2 q3 q4 q5 q6 q7) k
      · rw [gx_u_ne (by omega)]
        exact f1.2 k q5 q7 q8 q9 q10 q11 q12
    · rw [he1] at c
      rw [t1]
      refine r0_172 s1' (by decide) (fun m2 e7 fz => ?_)
      show hxn xs n yp_m189 17 [] [.inl 0] m2 _
      refine hx_dn (hr189_17 ?_)
      show hxn xs n yp_m168 67 _ [.inl 0] m2 Q
      exact hx_dn (hr168_67 (fun _ => fin m2 (by rw [e7, g2 c]) (rFz_t f1 fz)) (fun c => absurd rfl c))
  rcases wr with ⟨j, p0, K0, CL0, ps, hj16, hl, hs, hf⟩ | ⟨j, p0, K0, CL0, hl, hlt, hne, rfl⟩
  · cases j with
    | zero =>
      obtain ⟨rfl, rfl, rfl⟩ := hl
      have hps : ps = 0 := by
        rcases hs with ⟨-, e⟩ | ⟨e, -⟩
        · exact e
        · exact absurd rfl e
      subst hps
      refine r169F s0 c0 rfl (by decide) (Nat.le_refl _) hf (fun m2 e7 fz => ?_)
      show hxn xs n yp_m168 45 _ [.inl 0] m2 Q
      exact hx_dn (hr168_45 (fin m2 e7 fz))
    | succ j =>
      have h59 : tx T N p0 = 59 ∧ ps = p0 + 1 := by
        rcases hs with ⟨e, -⟩ | ⟨-, a, b⟩
        · exact absurd e (by omega)
        · exact ⟨a, b⟩
      obtain ⟨h59, rfl⟩ := h59
      have hkl := lLs_kl hl
      refine sep hl (tx_lt (by rw [h59]; decide)) (fun _ m2 s2 c2 f2 => ?_) (fun c => absurd h59 c)
      refine r169F s2 c2 (lLs_len hl).symm hj16 (by omega) hf (fun m3 e7 fz => ?_)
      show hxn xs n yp_m168 74 _ [.inl 0] m3 Q
      exact hx_dn (hr168_74 (fun _ => fin m3 e7 (rFz_t f2 fz)) (fun c => absurd rfl c))
  · exact sep hl hlt (fun c => absurd c hne) (fun _ => rfl)
theorem r168n {N : Int} (hN : ¬ (1 ≤ N ∧ N ≤ 240 ∧ N ≤ m 86 4)) (h : Q (some (.inl (-1))) m) : hxn xs n yp_m168 0 [(0, .inr (.inl 86)), (1, .inl N)] [] m Q :=
  hx_dn (hr168_0 (fun a b => absurd ⟨a.1, a.2, b⟩ hN) (fun _ _ => h) (fun _ => h))
end RK
