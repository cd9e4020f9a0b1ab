/-! the text as the class reads it: its bytes, what is emitted, faults -/
def cTx (T : Nat → Int) (L p : Nat) (m : gx_M) : Prop := m 3 1 = (L : Int) ∧ m 3 2 = (p : Int) ∧ m 3 3 = tx T L p ∧ m 3 4 = 0 ∧ ∀ k, k < L → m 4 k = T k
def cKd (K : hCode) (m : gx_M) : Prop := m 53 2 = (K.length : Int) ∧ ∀ i c, K[i]? = some c → m 54 i = c.1 ∧ m 55 i = c.2
def cFr (m0 m : gx_M) : Prop := (∀ c, c ≠ 3 → c ≠ 53 → c ≠ 54 → c ≠ 55 → m c = m0 c) ∧ ∀ k, k ≠ 2 → m 53 k = m0 53 k
def cS (T : Nat → Int) (L : Nat) (m0 : gx_M) (p : Nat) (K : hCode) (m : gx_M) : Prop := cTx T L p m ∧ cKd K m ∧ cFr m0 m ∧ p ≤ L ∧ L ≤ 240 ∧ K.length ≤ p
def cF (m0 : gx_M) (f : Int) (m : gx_M) : Prop := m 3 4 = f ∧ cFr m0 m
theorem tx_lt {T : Nat → Int} {L p : Nat} (h : tx T L p ≠ -1) : p < L := by
  unfold tx at h
  split at h
  · assumption
  · exact absurd rfl h
theorem tx_eq {T : Nat → Int} {L p : Nat} (h : p < L) : tx T L p = T p := if_pos h
theorem tx_no {T : Nat → Int} {L p : Nat} (h : L ≤ p) : tx T L p = -1 := if_neg (by omega)
theorem isDg_no : ¬ isDg (-1) := by
  unfold isDg
  omega
theorem isDg_lt {T : Nat → Int} {L p : Nat} (h : isDg (tx T L p)) : p < L := tx_lt (fun e => by
  rw [e] at h
  exact isDg_no h)
section CT
variable {xs : List Int32} {n : Nat} {Q : hQ} {T : Nat → Int} {L p : Nat} {m0 m : gx_M} {K : hCode}
theorem cs_sg (hS : cS T L m0 p K m) : m 3 3 = tx T L p := hS.1.2.2.1
theorem cs_pl (hS : cS T L m0 p K m) : m 3 2 = (p : Int) := hS.1.2.1
theorem cs_kl (hS : cS T L m0 p K m) : K.length ≤ p := hS.2.2.2.2.2
theorem cs_le (hS : cS T L m0 p K m) : p ≤ L := hS.2.2.2.1
theorem cs_L (hS : cS T L m0 p K m) : L ≤ 240 := hS.2.2.2.2.1
theorem cs25 (h1 : m 3 1 = (L : Int)) (h2 : ∀ k, k < L → m 4 k = T k) (hL : L ≤ 240) (h : Q (some (.inl (tx T L p))) m) : hxn xs n yp_m25 0 [(0, .inr (.inl 3)), (1, .inl (p : Int))] [] m Q := by
  refine hx_dn (hr25_0 (fun c => absurd c (by omega)) (fun _ c => ?_) (fun _ c1 c2 => absurd c2 (by omega)) (fun _ c _ => ?_))
  · rw [tx_no (by omega)] at h
    exact h
  · rw [tx_eq (by omega)] at h
    rw [Int.toNat_natCast, h2 p (by omega)]
    exact h
theorem cs30 (hS : cS T L m0 p K m) (hp : p < L) (h : ∀ m', cS T L m0 (p + 1) K m' → Q none m') : hxn xs n yp_m30 0 [(0, .inr (.inl 3))] [] m Q := by
  obtain ⟨⟨t1, t2, t3, t4, t5⟩, ⟨k1, k2⟩, ⟨f1, f2⟩, a1, a2, a3⟩ := hS
  refine hx_dn (hr30_0 (by omega) (fun c => absurd c (by omega)) (fun _ => ?_))
  rw [t2]
  refine cs25 (p := p + 1) (T := T) (L := L) ?_ (fun k hk => ?_) a2 ?_
  · rw [gx_u_ne (by omega)]
    exact t1
  · rw [gx_u_ne (by omega)]
    exact t5 k hk
  · show hxn xs n yp_m30 30 [] [.inl (tx T L (p + 1)), .inr (.inl 3)] _ Q
    refine hx_dn (hr30_30 (h _ ⟨⟨?_, ?_, ?_, ?_, fun k hk => ?_⟩, ⟨?_, fun i c hc => ?_⟩, ⟨fun c h3 h5 h6 h7 => ?_, fun k hk => ?_⟩, by omega, a2, by omega⟩))
    · rw [gx_u_ne (by omega), gx_u_ne (by omega)]
      exact t1
    · rw [gx_u_ne (by omega), gx_u_self]
      omega
    · rw [gx_u_self]
    · rw [gx_u_ne (by omega), gx_u_ne (by omega)]
      exact t4
    · rw [gx_u_ne (by omega), gx_u_ne (by omega)]
      exact t5 k hk
    · rw [gx_u_ne (by omega), gx_u_ne (by omega)]
      exact k1
    · rw [gx_u_ne (by omega), gx_u_ne (by omega), gx_u_ne (by omega), gx_u_ne (by omega)]
      exact k2 i c hc
    · funext k
      rw [gx_u_ne (by omega), gx_u_ne (by omega)]
      exact congrFun (f1 c h3 h5 h6 h7) k
    · rw [gx_u_ne (by omega), gx_u_ne (by omega)]
      exact f2 k hk
theorem cs29 (hS : cS T L m0 p K m) {a : Int} (ha : 0 ≤ a ∧ a ≤ 9) (h : ∀ m', cF m0 (lfl a p) m' → Q (some (.inl 0)) m') : hxn xs n yp_m29 0 [(0, .inr (.inl 3)), (1, .inl a), (2, .inl (p : Int))] [] m Q := by
  obtain ⟨⟨t1, t2, t3, t4, t5⟩, k, ⟨f1, f2⟩, a1, a2, a3⟩ := hS
  refine hx_dn (hr29_0 (fun c => absurd t4 c) (fun _ => h _ ⟨?_, fun c h3 h5 h6 h7 => ?_, fun k hk => ?_⟩))
  · rw [gx_u_self, gx_w_id (x := (-1000) * a) (by omega) (by omega), gx_w_id (by omega) (by omega)]
    rfl
  · funext k
    rw [gx_u_ne (by omega)]
    exact congrFun (f1 c h3 h5 h6 h7) k
  · rw [gx_u_ne (by omega)]
    exact f2 k hk
theorem cs28 (hS : cS T L m0 p K m) (h : ∀ m', cF m0 (lfl 1 p) m' → Q (some (.inl 0)) m') : hxn xs n yp_m28 0 [(0, .inr (.inl 3))] [] m Q := by
  refine hx_dn (hr28_0 ?_)
  rw [cs_pl hS]
  exact cs29 hS (by decide) (fun m' hf => hx_dn (hr28_9 (h m' hf)))
theorem cs37 (hS : cS T L m0 p K m) {c : Int} (hc : c ≠ -1) (h1 : tx T L p = c → ∀ m', cS T L m0 (p + 1) K m' → Q (some (.inl 1)) m') (h0 : tx T L p ≠ c → ∀ m', cF m0 (lfl 1 p) m' → Q (some (.inl 0)) m') : hxn xs n yp_m37 0 [(0, .inr (.inl 3)), (1, .inl c)] [] m Q := by
  refine hx_dn (hr37_0 (fun e => ?_) (fun e => ?_))
  · rw [cs_sg hS] at e
    exact cs30 hS (tx_lt (by rw [e]; exact hc)) (fun m' hm => hx_dn (hr37_17 (h1 e m' hm)))
  · rw [cs_sg hS] at e
    exact cs28 hS (fun m' hf => hx_dn (hr37_12 (h0 e m' hf)))
theorem cs36 (hS : cS T L m0 p K m) {a b : Int} (hl' : K.length + 1 ≤ p) (h : ∀ m', cS T L m0 p (K ++ [(a, b)]) m' → Q (some (.inl (K.length : Int))) m') : hxn xs n yp_m36 0 [(0, .inr (.inl 53)), (1, .inl a), (2, .inl b)] [] m Q := by
  obtain ⟨⟨t1, t2, t3, t4, t5⟩, ⟨k1, k2⟩, ⟨f1, f2⟩, a1, a2, a3⟩ := hS
  refine hx_dn (hr36_0 (fun c => absurd c (by omega)) (fun _ _ => ?_) (fun _ c => absurd c (by omega)))
  rw [k1, Int.toNat_natCast]
  refine h _ ⟨⟨?_, ?_, ?_, ?_, fun k hk => ?_⟩, ⟨?_, fun i c hc => ?_⟩, ⟨fun c h3 h5 h6 h7 => ?_, fun k hk => ?_⟩, a1, a2, by rw [List.length_append, List.length_singleton]; exact hl'⟩
  · rw [gx_u_ne (by omega), gx_u_ne (by omega), gx_u_ne (by omega)]
    exact t1
  · rw [gx_u_ne (by omega), gx_u_ne (by omega), gx_u_ne (by omega)]
    exact t2
  · rw [gx_u_ne (by omega), gx_u_ne (by omega), gx_u_ne (by omega)]
    exact t3
  · rw [gx_u_ne (by omega), gx_u_ne (by omega), gx_u_ne (by omega)]
    exact t4
  · rw [gx_u_ne (by omega), gx_u_ne (by omega), gx_u_ne (by omega)]
    exact t5 k hk
  · rw [gx_u_self, List.length_append, List.length_singleton]
    omega
  · rcases lk_app hc with hc | ⟨rfl, rfl⟩
    · have := lk_lt hc
      rw [gx_u_ne (by omega), gx_u_ne (by omega), gx_u_ne (by omega), gx_u_ne (by omega), gx_u_ne (by omega), gx_u_ne (by omega)]
      exact k2 i c hc
    · refine ⟨?_, ?_⟩
      · rw [gx_u_ne (by omega), gx_u_ne (by omega), gx_u_self]
      · rw [gx_u_ne (by omega), gx_u_self]
  · funext k
    rw [gx_u_ne (by omega), gx_u_ne (by omega), gx_u_ne (by omega)]
    exact congrFun (f1 c h3 h5 h6 h7) k
  · rw [gx_u_ne (by omega), gx_u_ne (by omega), gx_u_ne (by omega)]
    exact f2 k hk
theorem cs44 (hS : cS T L m0 p K m) {a : Nat} {c0 b0 : Int} (ha : K[a]? = some (c0, b0)) (h : ∀ m', cS T L m0 p (K.set a (c0, (K.length : Int))) m' → Q none m') : hxn xs n yp_m44 0 [(0, .inr (.inl 53)), (1, .inl (a : Int))] [] m Q := by
  obtain ⟨⟨t1, t2, t3, t4, t5⟩, ⟨k1, k2⟩, ⟨f1, f2⟩, a1, a2, a3⟩ := hS
  have hlt := lk_lt ha
  refine hx_dn (hr44_0 (fun c => absurd c (by omega)) (fun _ c => absurd c (by omega)) (fun _ _ => ?_))
  rw [k1, Int.toNat_natCast]
  refine h _ ⟨⟨?_, ?_, ?_, ?_, fun k hk => ?_⟩, ⟨?_, fun i c hc => ?_⟩, ⟨fun c h3 h5 h6 h7 => ?_, fun k hk => ?_⟩, a1, a2, by rw [List.length_set]; exact a3⟩
  · rw [gx_u_ne (by omega)]
    exact t1
  · rw [gx_u_ne (by omega)]
    exact t2
  · rw [gx_u_ne (by omega)]
    exact t3
  · rw [gx_u_ne (by omega)]
    exact t4
  · rw [gx_u_ne (by omega)]
    exact t5 k hk
  · rw [gx_u_ne (by omega), List.length_set]
    exact k1
  · rcases lk_set hc with ⟨rfl, rfl⟩ | ⟨hne, hc⟩
    · refine ⟨?_, ?_⟩
      · rw [gx_u_ne (by omega)]
        exact (k2 _ _ ha).1
      · rw [gx_u_self]
    · rw [gx_u_ne (by omega), gx_u_ne (by omega)]
      exact k2 i c hc
  · funext k
    rw [gx_u_ne (by omega)]
    exact congrFun (f1 c h3 h5 h6 h7) k
  · rw [gx_u_ne (by omega)]
    exact f2 k hk
def lpw : Nat → Int
  | 0 => 1
  | j + 1 => 10 * lpw j
theorem lnum_bd : ∀ j : Nat, (∀ i, i < j → isDg (tx T L (p + i))) → 0 ≤ lnum T p j ∧ lnum T p j < lpw j
  | 0, _ => by
    show (0 : Int) ≤ 0 ∧ (0 : Int) < 1
    omega
  | j + 1, h => by
    have ih := lnum_bd j (fun i hi => h i (by omega))
    have hd := h j (by omega)
    have hlt := isDg_lt hd
    rw [tx_eq hlt] at hd
    unfold isDg at hd
    show 0 ≤ 10 * lnum T p j + T (p + j) - 48 ∧ 10 * lnum T p j + T (p + j) - 48 < 10 * lpw j
    omega
theorem lpw_le {j : Nat} (h : j ≤ 5) : lpw j ≤ 100000 := by
  have : j = 0 ∨ j = 1 ∨ j = 2 ∨ j = 3 ∨ j = 4 ∨ j = 5 := by omega
  rcases this with rfl | rfl | rfl | rfl | rfl | rfl <;> decide
theorem cl35 {most : Nat} (hm : most ≤ 5) (h : ∀ j m', j ≤ most → (∀ i, i < j → isDg (tx T L (p + i))) → (j = most ∨ ¬ isDg (tx T L (p + j))) → cS T L m0 (p + j) K m' → Q (some (.inl (lnum T p j))) m') : ∀ e j : Nat, j + e = most → ∀ m', cS T L m0 (p + j) K m' → (∀ i, i < j → isDg (tx T L (p + i))) → hxn xs n yp_m35 4 [(0, .inr (.inl 3)), (1, .inl (most : Int)), (2, .inl (lnum T p j)), (3, .inl (j : Int))] [] m' Q := by
  intro e
  induction e with
  | zero =>
    intro j hj m' hS hd
    have e : j = most := by omega
    subst e
    exact hx_dn (hr35_4 (by omega) (fun _ => h j m' (Nat.le_refl _) hd (.inl rfl) hS) (fun c => absurd c (by omega)) (fun c => absurd c (by omega)))
  | succ e ih =>
    intro j hj m' hS hd
    refine hx_dn (hr35_4 (by omega) (fun c => absurd c (by omega)) (fun _ c => ?_) (fun _ c => ?_))
    · rw [cs_sg hS] at c ⊢
      have hlt := isDg_lt c
      have hd2 : ∀ i, i < j + 1 → isDg (tx T L (p + i)) := fun i hi => by
        by_cases e : i = j
        · rw [e]
          exact c
        · exact hd i (by omega)
      have b1 := lnum_bd (T := T) (L := L) (p := p) j hd
      have b2 := lpw_le (j := j) (by omega)
      have c2 : 48 ≤ T (p + j) ∧ T (p + j) ≤ 57 := by
        rw [tx_eq hlt] at c
        exact c
      have ev : gx_w (gx_w (gx_w (10 * lnum T p j) + tx T L (p + j)) - 48) = lnum T p (j + 1) := by
        rw [tx_eq hlt, gx_w_id (x := 10 * lnum T p j) (by omega) (by omega), gx_w_id (x := 10 * lnum T p j + T (p + j)) (by omega) (by omega), gx_w_id (by omega) (by omega)]
        rfl
      rw [ev]
      exact cs30 hS hlt (fun m2 h2 => hx_dn (hr35_33 (by omega) (ih (j + 1) (by omega) m2 h2 hd2)))
    · rw [cs_sg hS] at c
      exact h j m' (by omega) hd (.inr c) hS
theorem cs35 {most : Nat} (hm : most ≤ 5) (hS : cS T L m0 p K m) (h : ∀ j m', j ≤ most → (∀ i, i < j → isDg (tx T L (p + i))) → (j = most ∨ ¬ isDg (tx T L (p + j))) → cS T L m0 (p + j) K m' → Q (some (.inl (lnum T p j))) m') : hxn xs n yp_m35 0 [(0, .inr (.inl 3)), (1, .inl (most : Int))] [] m Q :=
  hx_dn (hr35_0 (cl35 hm h most 0 (Nat.zero_add _) m hS (fun i hi => absurd hi (by omega))))
end CT
