/-! clauses, as both read them -/
abbrev hCl : Type := Int × Nat × Nat × Nat
def lHd (T : Nat → Int) (L p : Nat) (K : hCode) (p1 : Nat) (K1 : hCode) : Prop := (tx T L p = 110 ∧ p1 = p + 1 ∧ K1 = K) ∨ (tx T L p ≠ 110 ∧ lD T L 2 0 (p + 1) K p1 K1 ∧ ¬ isSm (tx T L p1))
def lCl (T : Nat → Int) (L p : Nat) (K : hCode) (p' : Nat) (K' : hCode) (c : hCl) : Prop := isKd (tx T L p) ∧ ∃ p1 K1 p2, lHd T L p K p1 K1 ∧ tx T L p1 = 40 ∧ lD T L 5 1 (p1 + 1) K1 p2 K' ∧ tx T L p2 = 41 ∧ p' = p2 + 1 ∧ c = (tx T L p, K.length, K1.length, K'.length)
def lBr (T : Nat → Int) (L p : Nat) (K : hCode) (f : Int) : Prop := (tx T L p ≠ 40 ∧ f = lfl 1 p) ∨ (tx T L p = 40 ∧ lE T L 5 1 (p + 1) K f) ∨ (tx T L p = 40 ∧ ∃ p1 K1, lD T L 5 1 (p + 1) K p1 K1 ∧ tx T L p1 ≠ 124 ∧ tx T L p1 ≠ 41 ∧ f = lfl 1 p1)
def lCF (T : Nat → Int) (L i p : Nat) (K : hCode) (f : Int) : Prop := (¬ isKd (tx T L p) ∧ f = lfl 1 p) ∨ (isKd (tx T L p) ∧ 16 ≤ i ∧ f = lfl 4 p) ∨ (isKd (tx T L p) ∧ i < 16 ∧ tx T L p ≠ 110 ∧ lE T L 2 0 (p + 1) K f) ∨ (isKd (tx T L p) ∧ i < 16 ∧ ∃ p1 K1, lHd T L p K p1 K1 ∧ lBr T L p1 K1 f)
def lSep (T : Nat → Int) (L j p0 ps : Nat) : Prop := (j = 0 ∧ ps = p0) ∨ (j ≠ 0 ∧ tx T L p0 = 59 ∧ ps = p0 + 1)
def lLs (T : Nat → Int) (L : Nat) : Nat → Nat → hCode → List hCl → Prop
  | 0, p, K, CL => p = 0 ∧ K = [] ∧ CL = []
  | j + 1, p, K, CL => ∃ p0 K0 CL0 ps c, lLs T L j p0 K0 CL0 ∧ lSep T L j p0 ps ∧ j < 16 ∧ lCl T L ps K0 p K c ∧ CL = CL0 ++ [c]
def lOk (T : Nat → Int) (L : Nat) (K : hCode) (CL : List hCl) : Prop := ∃ j, lLs T L (j + 1) L K CL
def lWr (T : Nat → Int) (L : Nat) (f : Int) : Prop := (∃ j p0 K0 CL0 ps, j ≤ 16 ∧ lLs T L j p0 K0 CL0 ∧ lSep T L j p0 ps ∧ lCF T L j ps K0 f) ∨ (∃ j p K CL, lLs T L (j + 1) p K CL ∧ p < L ∧ tx T L p ≠ 59 ∧ f = lfl 1 p)
theorem lLs_len {T : Nat → Int} {L : Nat} : ∀ {j p : Nat} {K : hCode} {CL : List hCl}, lLs T L j p K CL → CL.length = j
  | 0, p, K, CL, h => by
    rw [h.2.2]
    rfl
  | j + 1, p, K, CL, h => by
    obtain ⟨p0, K0, CL0, ps, c, h1, -, -, -, rfl⟩ := h
    rw [List.length_append, List.length_singleton, lLs_len h1]
theorem lg_lt {α : Type} {K : List α} {i : Nat} {c : α} (h : K[i]? = some c) : i < K.length := (List.getElem?_eq_some_iff.mp h).1
theorem lg_app {α : Type} {K : List α} {x c : α} {i : Nat} (h : (K ++ [x])[i]? = some c) : K[i]? = some c ∨ (i = K.length ∧ c = x) := by
  by_cases hi : i < K.length
  · rw [List.getElem?_append_left hi] at h
    exact .inl h
  · rw [List.getElem?_append_right (by omega)] at h
    have h2 := lg_lt h
    have e : i - K.length = 0 := by
      rw [List.length_singleton] at h2
      omega
    rw [e] at h
    cases h
    exact .inr ⟨by omega, rfl⟩
theorem lCl_gr {T : Nat → Int} {L p p' : Nat} {K K' : hCode} {c : hCl} (h : lCl T L p K p' K' c) : K'.length + p ≤ K.length + p' ∧ p < p' ∧ p' ≤ L := by
  obtain ⟨-, p1, K1, p2, hh, -, hd, h41, rfl, -⟩ := h
  have g2 := lD_grow hd
  have hlt : p2 < L := tx_lt (by rw [h41]; decide)
  rcases hh with ⟨-, rfl, rfl⟩ | ⟨-, hd1, -⟩
  · omega
  · have g1 := lD_grow hd1
    omega
theorem lLs_kl {T : Nat → Int} {L : Nat} : ∀ {j p : Nat} {K : hCode} {CL : List hCl}, lLs T L j p K CL → K.length ≤ p
  | 0, p, K, CL, h => by
    rw [h.2.1]
    exact Nat.zero_le _
  | j + 1, p, K, CL, h => by
    obtain ⟨p0, K0, CL0, ps, c, h1, h2, -, h3, -⟩ := h
    have g := lCl_gr h3
    have ih := lLs_kl h1
    rcases h2 with ⟨-, rfl⟩ | ⟨-, -, rfl⟩ <;> omega
/-! the class -/
def cCl (CL : List hCl) (m : gx_M) : Prop := m 53 7 = (CL.length : Int) ∧ ∀ i c, CL[i]? = some c → m 56 i = c.1 ∧ m 57 i = (c.2.1 : Int) ∧ m 58 i = (c.2.2.1 : Int) ∧ m 59 i = (c.2.2.2 : Int)
def cFz (m0 m : gx_M) : Prop := (∀ c, c ≠ 3 → c ≠ 53 → c ≠ 54 → c ≠ 55 → c ≠ 56 → c ≠ 57 → c ≠ 58 → c ≠ 59 → m c = m0 c)
theorem cFz_of {m0 m : gx_M} (h : cFr m0 m) : cFz m0 m := fun c h1 h2 h3 h4 _ _ _ _ => h.1 c h1 h2 h3 h4
theorem cFz_t {m m1 m2 : gx_M} (h : cFz m m1) (h' : cFz m1 m2) : cFz m m2 := fun c a b d e f g i j => (h' c a b d e f g i j).trans (h c a b d e f g i j)
theorem cS_re {T : Nat → Int} {L p : Nat} {m0 m : gx_M} {K : hCode} (h : cS T L m0 p K m) : cS T L m p K m := ⟨h.1, h.2.1, ⟨fun _ _ _ _ _ => rfl, fun _ _ => rfl⟩, h.2.2.2⟩
theorem cCl_fr {m0 m : gx_M} {CL : List hCl} (h : cCl CL m0) (f : cFr m0 m) : cCl CL m := by
  refine ⟨by rw [f.2 7 (by decide)]; exact h.1, fun i c hc => ?_⟩
  rw [f.1 56 (by decide) (by decide) (by decide) (by decide), f.1 57 (by decide) (by decide) (by decide) (by decide), f.1 58 (by decide) (by decide) (by decide) (by decide), f.1 59 (by decide) (by decide) (by decide) (by decide)]
  exact h.2 i c hc
section CC
variable {xs : List Int32} {n : Nat} {Q : hQ} {T : Nat → Int} {L p : Nat} {m0 m : gx_M} {K : hCode} {CL : List hCl}
theorem c27 {i : Nat} (hS : cS T L m p K m) (hC : cCl CL m) (hi : i = CL.length) (h16 : i ≤ 16) (h1 : ∀ p' K' c m', lCl T L p K p' K' c → i < 16 → cS T L m' p' K' m' → cCl (CL ++ [c]) m' → cFz m m' → Q (some (.inl 1)) m') (h0 : ∀ f m', lCF T L i p K f → m' 3 4 = f → cFz m m' → Q (some (.inl 0)) m') : hxn xs n yp_m27 0 [(0, .inr (.inl 52)), (1, .inr (.inl 3)), (2, .inl (i : Int))] [] m Q := by
  have hsg := cs_sg hS
  have hpl := cs_pl hS
  have hkl := cs_kl hS
  have conp : ∀ p1 K1 m2, isKd (tx T L p) → i < 16 → lHd T L p K p1 K1 → cS T L m p1 K1 m2 → hxn xs n yp_m37 0 [(0, .inr (.inl 3)), (1, .inl 40)] [] m2 (fun r m' => hxn xs n yp_m27 101 [(0, .inr (.inl 52)), (1, .inr (.inl 3)), (3, .inl (tx T L p)), (4, .inl (K.length : Int)), (5, .inl (K1.length : Int))] (hrs r ++ []) m' Q) := fun p1 K1 m2 hkd hi16 hh s2 => by
    refine cs37 s2 (by decide) (fun t m3 s3 => ?_) (fun t m3 f3 => ?_)
    · refine hx_dn (hr27_101 (s0 := 1) (fun c => absurd c (by decide)) (fun _ => ?_))
      refine c_conA 1 (p1 + 1) K1 m3 _ (by decide) s3 ⟨fun p2 K2 m4 d e s4 => ?_, fun f m4 d f4 => ?_⟩
      · refine hx_dn (hr27_110 (s0 := 1) (fun c => absurd c (by decide)) (fun _ => ?_))
        refine cs37 s4 (by decide) (fun t2 m5 s5 => ?_) (fun t2 m5 f5 => ?_)
        · refine hx_dn (hr27_119 (s0 := 1) (fun _ => ?_) (fun c => absurd c (by decide)))
          have c5 := cCl_fr hC s5.2.2.1
          have k5 := s5.2.1.1
          have e7 : m5 53 7 = (i : Int) := by rw [c5.1, hi]
          refine hx_dn (hr45_0 (fun c => absurd c (by omega)) (fun _ _ => ?_) (fun _ c => absurd c (by omega)))
          rw [e7, Int.toNat_natCast]
          refine hx_dn (hr27_136 (h1 (p2 + 1) K2 (tx T L p, K.length, K1.length, K2.length) _ ⟨hkd, p1, K1, p2, hh, t, d, t2, rfl, rfl⟩ hi16 ?_ ?_ ?_))
          · obtain ⟨⟨t1, t2, t3, t4, t5⟩, ⟨k1, k2⟩, -, a⟩ := s5
            refine ⟨⟨?_, ?_, ?_, ?_, fun k hk => ?_⟩, ⟨?_, fun i' c hc => ?_⟩, ⟨fun _ _ _ _ _ => rfl, fun _ _ => rfl⟩, a⟩
            · rw [gx_u_ne (by omega), gx_u_ne (by omega), gx_u_ne (by omega), gx_u_ne (by omega), gx_u_ne (by omega)]
              exact t1
            · rw [gx_u_ne (by omega), gx_u_ne (by omega), gx_u_ne (by omega), gx_u_ne (by omega), gx_u_ne (by omega)]
              exact t2
            · rw [gx_u_ne (by omega), gx_u_ne (by omega), gx_u_ne (by omega), gx_u_ne (by omega), gx_u_ne (by omega)]
              exact t3
            · rw [gx_u_ne (by omega), gx_u_ne (by omega), gx_u_ne (by omega), gx_u_ne (by omega), gx_u_ne (by omega)]
              exact t4
            · rw [gx_u_ne (by omega), gx_u_ne (by omega), gx_u_ne (by omega), gx_u_ne (by omega), gx_u_ne (by omega)]
              exact t5 k hk
            · rw [gx_u_ne (by omega), gx_u_ne (by omega), gx_u_ne (by omega), gx_u_ne (by omega), gx_u_ne (by omega)]
              exact k1
            · rw [gx_u_ne (by omega), gx_u_ne (by omega), gx_u_ne (by omega), gx_u_ne (by omega), gx_u_ne (by omega), gx_u_ne (by omega), gx_u_ne (by omega), gx_u_ne (by omega), gx_u_ne (by omega), gx_u_ne (by omega)]
              exact k2 i' c hc
          · refine ⟨?_, fun i' c hc => ?_⟩
            · rw [gx_u_self, List.length_append, List.length_singleton]
              omega
            · rcases lg_app hc with hc | ⟨rfl, rfl⟩
              · have hlt := lg_lt hc
                obtain ⟨q1, q2, q3, q4⟩ := c5.2 i' c hc
                refine ⟨?_, ?_, ?_, ?_⟩
                · rw [gx_u_ne (by omega), gx_u_ne (by omega), gx_u_ne (by omega), gx_u_ne (by omega), gx_u_ne (by omega)]
                  exact q1
                · rw [gx_u_ne (by omega), gx_u_ne (by omega), gx_u_ne (by omega), gx_u_ne (by omega), gx_u_ne (by omega)]
                  exact q2
                · rw [gx_u_ne (by omega), gx_u_ne (by omega), gx_u_ne (by omega), gx_u_ne (by omega), gx_u_ne (by omega)]
                  exact q3
                · rw [gx_u_ne (by omega), gx_u_ne (by omega), gx_u_ne (by omega), gx_u_ne (by omega), gx_u_ne (by omega)]
                  exact q4
              · subst hi
                refine ⟨?_, ?_, ?_, ?_⟩
                · rw [gx_u_ne (by omega), gx_u_ne (by omega), gx_u_ne (by omega), gx_u_ne (by omega), gx_u_self]
                · rw [gx_u_ne (by omega), gx_u_ne (by omega), gx_u_ne (by omega), gx_u_self]
                · rw [gx_u_ne (by omega), gx_u_ne (by omega), gx_u_self]
                · rw [gx_u_ne (by omega), gx_u_self]
                  exact k5
          · intro c a1 a2 a3 a4 a5 a6 a7 a8
            funext k
            rw [gx_u_ne (by omega), gx_u_ne (by omega), gx_u_ne (by omega), gx_u_ne (by omega), gx_u_ne (by omega)]
            exact congrFun (s5.2.2.1.1 c a1 a2 a3 a4) k
        · exact hx_dn (hr27_119 (s0 := 0) (fun c => absurd rfl c) (fun _ => h0 _ m5 (.inr (.inr (.inr ⟨hkd, hi16, p1, K1, hh, .inr (.inr ⟨t, p2, K2, d, e.2.2.2 rfl, t2, rfl⟩)⟩))) f5.1 (cFz_of f5.2)))
      · exact hx_dn (hr27_110 (s0 := 0) (fun _ => h0 _ m4 (.inr (.inr (.inr ⟨hkd, hi16, p1, K1, hh, .inr (.inl ⟨t, d⟩)⟩))) f4.1 (cFz_of f4.2)) (fun c => absurd rfl c))
    · exact hx_dn (hr27_101 (s0 := 0) (fun _ => h0 _ m3 (.inr (.inr (.inr ⟨hkd, hi16, p1, K1, hh, .inl ⟨t, rfl⟩⟩))) f3.1 (cFz_of f3.2)) (fun c => absurd rfl c))
  have go : isKd (tx T L p) → i < 16 → hxn xs n yp_m30 0 [(0, .inr (.inl 3))] [] m (fun r m' => hxn xs n yp_m27 60 [(0, .inr (.inl 52)), (1, .inr (.inl 3)), (3, .inl (tx T L p))] (hrs r ++ []) m' Q) := fun hkd hi16 => by
    refine cs30 hS (tx_lt (fun e => by rw [e] at hkd; unfold isKd at hkd; omega)) (fun m1 s1 => ?_)
    refine hx_dn (hr27_60 (fun c => ?_) (fun c => ?_))
    · rw [s1.2.1.1]
      exact conp (p + 1) K m1 hkd hi16 (.inl ⟨c, rfl, rfl⟩) s1
    · rw [s1.2.1.1]
      refine c_sumA 0 (p + 1) K m1 _ (by decide) s1 ⟨fun p1 K1 m2 d e s2 => ?_, fun f m2 d f2 => ?_⟩
      · refine hx_dn (hr27_81 (s0 := 1) (fun _ => ?_) (fun c => absurd c (by decide)))
        rw [s2.2.1.1]
        exact conp p1 K1 m2 hkd hi16 (.inr ⟨c, d, e.2.1 rfl⟩) s2
      · exact hx_dn (hr27_81 (s0 := 0) (fun c => absurd rfl c) (fun _ => h0 _ m2 (.inr (.inr (.inl ⟨hkd, hi16, c, d⟩))) f2.1 (cFz_of f2.2)))
  have fr : isKd (tx T L p) → 16 ≤ i → hxn xs n yp_m29 0 [(0, .inr (.inl 3)), (1, .inl 4), (2, .inl (p : Int))] [] m (fun r m' => hxn xs n yp_m27 55 [] (hrs r ++ []) m' Q) := fun hkd hi16 =>
    cs29 hS (by decide) (fun m1 f1 => hx_dn (hr27_55 (h0 _ m1 (.inr (.inl ⟨hkd, hi16, rfl⟩)) f1.1 (cFz_of f1.2))))
  refine hx_dn (hr27_0 (fun c d => ?_) (fun c d => ?_) (fun _ c d => ?_) (fun _ c d => ?_) (fun _ _ c d => ?_) (fun _ _ c d => ?_) (fun _ _ _ c d => ?_) (fun _ _ _ c d => ?_) (fun _ _ _ _ c d => ?_) (fun _ _ _ _ c d => ?_) (fun a b c d e => ?_))
  · rw [hsg] at c ⊢
    exact go (.inl c) (by omega)
  · rw [hsg] at c
    rw [hpl]
    exact fr (.inl c) (by omega)
  · rw [hsg] at c ⊢
    exact go (.inr (.inl c)) (by omega)
  · rw [hsg] at c
    rw [hpl]
    exact fr (.inr (.inl c)) (by omega)
  · rw [hsg] at c ⊢
    exact go (.inr (.inr (.inl c))) (by omega)
  · rw [hsg] at c
    rw [hpl]
    exact fr (.inr (.inr (.inl c))) (by omega)
  · rw [hsg] at c ⊢
    exact go (.inr (.inr (.inr (.inl c)))) (by omega)
  · rw [hsg] at c
    rw [hpl]
    exact fr (.inr (.inr (.inr (.inl c)))) (by omega)
  · rw [hsg] at c ⊢
    exact go (.inr (.inr (.inr (.inr c)))) (by omega)
  · rw [hsg] at c
    rw [hpl]
    exact fr (.inr (.inr (.inr (.inr c)))) (by omega)
  · rw [hsg] at a b c d e
    refine cs28 hS (fun m1 f1 => hx_dn (hr27_39 (h0 _ m1 (.inl ⟨?_, rfl⟩) f1.1 (cFz_of f1.2))))
    unfold isKd
    omega
theorem c26l (h1 : ∀ K CL m', lOk T L K CL → cS T L m' L K m' → cCl CL m' → cFz m0 m' → Q (some (.inl 1)) m') (h0 : ∀ f m', lWr T L f → m' 3 4 = f → cFz m0 m' → Q (some (.inl 0)) m') : ∀ e i : Nat, i + e = 16 → ∀ p0 ps K CL m, lLs T L i p0 K CL → lSep T L i p0 ps → cS T L m ps K m → cCl CL m → cFz m0 m → hxn xs n yp_m26 18 [(0, .inr (.inl 52)), (1, .inr (.inl 3)), (2, .inl (i : Int))] [] m Q := by
  intro e
  induction e with
  | zero =>
    intro i hi p0 ps K CL m hl hs hS hC hF
    refine hx_dn (hr26_18 (by omega) (fun _ => ?_))
    refine c27 hS hC (lLs_len hl).symm (by omega) (fun p' K' c m' hc hi16 => by omega) (fun f m' hf h4 hz => ?_)
    exact hx_dn (hr26_30 (s0 := 0) (by omega) (fun c => absurd rfl c) (fun _ => h0 f m' (.inl ⟨i, p0, K, CL, ps, by omega, hl, hs, hf⟩) h4 (cFz_t hF hz)))
  | succ e il =>
    intro i hi p0 ps K CL m hl hs hS hC hF
    refine hx_dn (hr26_18 (by omega) (fun _ => ?_))
    refine c27 hS hC (lLs_len hl).symm (by omega) (fun p' K' c m' hc hi16 s' c' hz => ?_) (fun f m' hf h4 hz => ?_)
    · have hl' : lLs T L (i + 1) p' K' (CL ++ [c]) := ⟨p0, K, CL, ps, c, hl, hs, hi16, hc, rfl⟩
      have hF' := cFz_t hF hz
      refine hx_dn (hr26_30 (s0 := 1) (by omega) (fun _ => ?_) (fun c => absurd c (by decide)))
      have e1 : m' 3 1 = (L : Int) := s'.1.1
      have e2 := cs_pl s'
      have hle := cs_le s'
      refine hx_dn (hr46_0 (fun c => ?_) (fun c => ?_))
      · refine hx_dn (hr26_39 (s0 := 0) (by omega) (fun _ => ?_) (fun c => absurd rfl c))
        refine cs37 s' (by decide) (fun t m2 s2 => ?_) (fun t m2 f2 => ?_)
        · exact hx_dn (hr26_50 (s0 := 1) (by omega) (fun _ => il (i + 1) (by omega) p' (p' + 1) K' _ m2 hl' (.inr ⟨by omega, t, rfl⟩) (cS_re s2) (cCl_fr c' s2.2.2.1) (cFz_t hF' (cFz_of s2.2.2.1))) (fun c => absurd c (by decide)))
        · exact hx_dn (hr26_50 (s0 := 0) (by omega) (fun c => absurd rfl c) (fun _ => h0 _ m2 (.inr ⟨i, p', K', _, hl', by omega, t, rfl⟩) f2.1 (cFz_t hF' (cFz_of f2.2))))
      · have e : p' = L := by omega
        subst e
        exact hx_dn (hr26_39 (s0 := 1) (by omega) (fun c => absurd c (by decide)) (fun _ => h1 K' _ m' ⟨i, hl'⟩ s' c' hF'))
    · exact hx_dn (hr26_30 (s0 := 0) (by omega) (fun c => absurd rfl c) (fun _ => h0 f m' (.inl ⟨i, p0, K, CL, ps, by omega, hl, hs, hf⟩) h4 (cFz_t hF hz)))
theorem c26 (hT : cTx T L 0 m) (hL : L ≤ 240) (h1 : ∀ K CL m', lOk T L K CL → cS T L m' L K m' → cCl CL m' → cFz m m' → Q (some (.inl 1)) m') (h0 : ∀ f m', lWr T L f → m' 3 4 = f → cFz m m' → Q (some (.inl 0)) m') : hxn xs n yp_m26 0 [(0, .inr (.inl 52)), (1, .inr (.inl 3))] [] m Q := by
  refine hx_dn (hr26_0 ?_)
  obtain ⟨t1, t2, t3, t4, t5⟩ := hT
  refine c26l h1 h0 16 0 rfl 0 0 [] [] _ ⟨rfl, rfl, rfl⟩ (.inl ⟨rfl, rfl⟩) ⟨⟨?_, ?_, ?_, ?_, fun k hk => ?_⟩, ⟨?_, fun i c hc => by cases hc⟩, ⟨fun _ _ _ _ _ => rfl, fun _ _ => rfl⟩, Nat.zero_le _, hL, Nat.le_refl _⟩ ⟨?_, fun i c hc => by cases hc⟩ (fun c a1 a2 a3 a4 a5 a6 a7 a8 => ?_)
  · rw [gx_u_ne (by omega), gx_u_ne (by omega)]
    exact t1
  · rw [gx_u_ne (by omega), gx_u_ne (by omega)]
    exact t2
  · rw [gx_u_ne (by omega), gx_u_ne (by omega)]
    exact t3
  · rw [gx_u_ne (by omega), gx_u_ne (by omega)]
    exact t4
  · rw [gx_u_ne (by omega), gx_u_ne (by omega)]
    exact t5 k hk
  · rw [gx_u_ne (by omega), gx_u_self]
    rfl
  · rw [gx_u_self]
    rfl
  · funext k
    rw [gx_u_ne (by omega), gx_u_ne (by omega)]
/-- a text is taken from the tape -/
theorem cs24 {N : Nat} (hN : 1 ≤ N ∧ N ≤ 240) (h : ∀ m', cTx (m 2) N 0 m' → m' 1 1 = 0 → (∀ c k, c ≠ 3 → c ≠ 4 → ¬ (c = 1 ∧ k = 1) → m' c k = m c k) → Q none m') : hxn xs n yp_m24 0 [(0, .inr (.inl 3)), (1, .inr (.inl 1)), (2, .inl (N : Int))] [] m Q := by
  refine hx_dn (hr24_0 ?_)
  rw [if_neg (show ¬ (260 : Int) < (N : Int) by omega), if_pos (show (0 : Int) < (N : Int) by omega), Int.toNat_natCast]
  obtain ⟨M, hM⟩ : ∃ M, M = gx_u (gx_u (hcopy (gx_u m 3 1 (N : Int)) 2 0 4 0 N) 1 1 0) 3 2 0 := ⟨_, rfl⟩
  rw [← hM]
  have e1 : M 3 1 = (N : Int) := by rw [hM, gx_u_ne (by omega), gx_u_ne (by omega), hcopy_ne (by decide), gx_u_self]
  have e4 : ∀ k, k < N → M 4 k = m 2 k := fun k hk => by rw [hM, gx_u_ne (by omega), gx_u_ne (by omega), hcopy_at hk, gx_u_ne (by omega)]
  refine cs25 (p := 0) (T := m 2) (L := N) e1 e4 hN.2 ?_
  show hxn xs n yp_m24 48 _ [.inl (tx (m 2) N 0), .inr (.inl 3)] M Q
  refine hx_dn (hr24_48 (h _ ⟨?_, ?_, ?_, ?_, fun k hk => ?_⟩ ?_ (fun c k c1 c2 c3 => ?_)))
  · rw [gx_u_ne (by omega), gx_u_ne (by omega)]
    exact e1
  · rw [gx_u_ne (by omega), gx_u_ne (by omega), hM, gx_u_self]
    rfl
  · rw [gx_u_ne (by omega), gx_u_self]
  · rw [gx_u_self]
  · rw [gx_u_ne (by omega), gx_u_ne (by omega)]
    exact e4 k hk
  · rw [gx_u_ne (by omega), gx_u_ne (by omega), hM, gx_u_ne (by omega), gx_u_self]
  · rw [gx_u_ne (by omega), gx_u_ne (by omega), hM, gx_u_ne (by omega), gx_u_ne (by omega), hcopy_ne c2, gx_u_ne (by omega)]
/-- what the class's law answers, and what stands then -/
def cLw (K : hCode) (CL : List hCl) (m : gx_M) : Prop := m 44 7 = (CL.length : Int) ∧ (∀ i c, K[i]? = some c → m 45 i = c.1 ∧ m 46 i = c.2) ∧ ∀ i c, CL[i]? = some c → m 47 i = c.1 ∧ m 48 i = (c.2.1 : Int) ∧ m 49 i = (c.2.2.1 : Int) ∧ m 50 i = (c.2.2.2 : Int)
def cFl (m m' : gx_M) : Prop := ∀ c k, c ≠ 3 → c ≠ 4 → c ≠ 53 → c ≠ 54 → c ≠ 55 → c ≠ 56 → c ≠ 57 → c ≠ 58 → c ≠ 59 → ¬ (c = 1 ∧ k = 1) → m' c k = m c k
theorem lLs_16 {T : Nat → Int} {L : Nat} : ∀ {j p : Nat} {K : hCode} {CL : List hCl}, lLs T L j p K CL → j ≤ 16
  | 0, _, _, _, _ => Nat.zero_le _
  | j + 1, _, _, _, h => by
    obtain ⟨p0, K0, CL0, ps, c, -, -, h3, -⟩ := h
    omega
theorem c22 {N : Nat} (hN : 1 ≤ N ∧ N ≤ 240) (ht : (N : Int) ≤ m 1 1) (h1 : ∀ K CL m', lOk (m 2) N K CL → cLw K CL m' → m' 1 1 = 0 → (∀ c k, c ≠ 45 → c ≠ 46 → c ≠ 47 → c ≠ 48 → c ≠ 49 → c ≠ 50 → ¬ (c = 44 ∧ k = 7) → c ≠ 3 → c ≠ 4 → c ≠ 53 → c ≠ 54 → c ≠ 55 → c ≠ 56 → c ≠ 57 → c ≠ 58 → c ≠ 59 → ¬ (c = 1 ∧ k = 1) → m' c k = m c k) → Q (some (.inl (CL.length : Int))) m') (h0 : ∀ f m', lWr (m 2) N f → m' 1 1 = 0 → cFl m m' → Q (some (.inl f)) m') : hxn xs n yp_m22 0 [(0, .inr (.inl 0)), (1, .inl (N : Int))] [] m Q := by
  refine hx_dn (hr22_0 (hx_dn (hr23_0 (fun c => absurd c (by omega)) (fun _ c => absurd c (by omega)) (fun _ _ c => absurd c (by omega)) (fun _ _ _ => ?_))))
  refine hx_dn (hr22_11 (s0 := 1) (fun _ => ?_) (fun c => absurd c (by decide)))
  refine cs24 hN (fun m1 t1 z1 f1 => ?_)
  refine hx_dn (hr22_28 ?_)
  refine c26 t1 hN.2 (fun K CL m2 ok s2 c2 f2 => ?_) (fun f m2 wr h4 f2 => ?_)
  · refine hx_dn (hr22_39 (s0 := 1) (fun _ => ?_) (fun c => absurd c (by decide)))
    refine hx_dn (hr47_0 ?_)
    obtain ⟨M, hM⟩ : ∃ M, M = gx_u (hcopy (hcopy (hcopy (hcopy (hcopy (hcopy m2 54 0 45 0 240) 55 0 46 0 240) 56 0 47 0 16) 57 0 48 0 16) 58 0 49 0 16) 59 0 50 0 16) 44 7 ((hcopy (hcopy (hcopy (hcopy (hcopy (hcopy m2 54 0 45 0 240) 55 0 46 0 240) 56 0 47 0 16) 57 0 48 0 16) 58 0 49 0 16) 59 0 50 0 16) 53 7) := ⟨_, rfl⟩
    rw [← hM]
    have hkl := cs_kl s2
    obtain ⟨j, hj⟩ := ok
    have hcl := lLs_len hj
    have h16 := lLs_16 hj
    have e7 : M 44 7 = (CL.length : Int) := by
      rw [hM, gx_u_self, hcopy_ne (by decide), hcopy_ne (by decide), hcopy_ne (by decide), hcopy_ne (by decide), hcopy_ne (by decide), hcopy_ne (by decide)]
      exact c2.1
    refine hx_dn (hr22_64 ?_)
    rw [e7]
    refine h1 K CL M ⟨j, hj⟩ ⟨e7, fun i c hc => ?_, fun i c hc => ?_⟩ ?_ (fun c k a1 a2 a3 a4 a5 a6 a7 b1 b2 b3 b4 b5 b6 b7 b8 b9 b10 => ?_)
    · have hlt := lk_lt hc
      refine ⟨?_, ?_⟩
      · rw [hM, gx_u_ne (by omega), hcopy_ne (by decide), hcopy_ne (by decide), hcopy_ne (by decide), hcopy_ne (by decide), hcopy_ne (by decide), hcopy_at (by omega)]
        exact (s2.2.1.2 i c hc).1
      · rw [hM, gx_u_ne (by omega), hcopy_ne (by decide), hcopy_ne (by decide), hcopy_ne (by decide), hcopy_ne (by decide), hcopy_at (by omega), hcopy_ne (by decide)]
        exact (s2.2.1.2 i c hc).2
    · have hlt := lg_lt hc
      obtain ⟨q1, q2, q3, q4⟩ := c2.2 i c hc
      refine ⟨?_, ?_, ?_, ?_⟩
      · rw [hM, gx_u_ne (by omega), hcopy_ne (by decide), hcopy_ne (by decide), hcopy_ne (by decide), hcopy_at (by omega), hcopy_ne (by decide), hcopy_ne (by decide)]
        exact q1
      · rw [hM, gx_u_ne (by omega), hcopy_ne (by decide), hcopy_ne (by decide), hcopy_at (by omega), hcopy_ne (by decide), hcopy_ne (by decide), hcopy_ne (by decide)]
        exact q2
      · rw [hM, gx_u_ne (by omega), hcopy_ne (by decide), hcopy_at (by omega), hcopy_ne (by decide), hcopy_ne (by decide), hcopy_ne (by decide), hcopy_ne (by decide)]
        exact q3
      · rw [hM, gx_u_ne (by omega), hcopy_at (by omega), hcopy_ne (by decide), hcopy_ne (by decide), hcopy_ne (by decide), hcopy_ne (by decide), hcopy_ne (by decide)]
        exact q4
    · rw [hM, gx_u_ne (by omega), hcopy_ne (by decide), hcopy_ne (by decide), hcopy_ne (by decide), hcopy_ne (by decide), hcopy_ne (by decide), hcopy_ne (by decide), f2 1 (by decide) (by decide) (by decide) (by decide) (by decide) (by decide) (by decide) (by decide)]
      exact z1
    · rw [hM, gx_u_ne a7, hcopy_ne a6, hcopy_ne a5, hcopy_ne a4, hcopy_ne a3, hcopy_ne a2, hcopy_ne a1, f2 c b1 b3 b4 b5 b6 b7 b8 b9]
      exact f1 c k b1 b2 b10
  · refine hx_dn (hr22_39 (s0 := 0) (fun c => absurd rfl c) (fun _ => ?_))
    rw [h4]
    refine h0 f m2 wr ?_ (fun c k b1 b2 b3 b4 b5 b6 b7 b8 b9 b10 => ?_)
    · rw [f2 1 (by decide) (by decide) (by decide) (by decide) (by decide) (by decide) (by decide) (by decide)]
      exact z1
    · rw [f2 c b1 b3 b4 b5 b6 b7 b8 b9]
      exact f1 c k b1 b2 b10
theorem c22n {N : Int} (hN : ¬ (1 ≤ N ∧ N ≤ 240 ∧ N ≤ m 1 1)) (h : Q (some (.inl (-1))) m) : hxn xs n yp_m22 0 [(0, .inr (.inl 0)), (1, .inl N)] [] m Q := by
  have fin : hxn xs n yp_m22 11 [(0, .inr (.inl 0)), (1, .inl N)] [.inl 0] m Q := hx_dn (hr22_11 (s0 := 0) (fun c => absurd rfl c) (fun _ => h))
  exact hx_dn (hr22_0 (hx_dn (hr23_0 (fun _ => fin) (fun _ _ => fin) (fun _ _ _ => fin) (fun a b c => absurd ⟨a, b, c⟩ hN))))
end CC
