section
/-! deals' text, as a function; as the class reads it -/
abbrev hAct : Type := Nat × Nat × Int × Nat × Nat
abbrev hRd : Type := Option (Nat × hAct) × Int
def ndg (T : Nat → Int) (L : Nat) : Nat → Nat → Nat
  | _, 0 => 0
  | p, k + 1 => if 48 ≤ tx T L p ∧ tx T L p ≤ 57 then ndg T L (p + 1) k + 1 else 0
theorem ndg_of {T : Nat → Int} {L : Nat} : ∀ {j most p : Nat}, j ≤ most → (∀ i, i < j → isDg (tx T L (p + i))) → (j = most ∨ ¬ isDg (tx T L (p + j))) → ndg T L p most = j
  | 0, 0, p, _, _, _ => rfl
  | 0, k + 1, p, _, _, he => by
    rcases he with e | e
    · cases e
    · exact if_neg e
  | j + 1, 0, p, h, _, _ => absurd h (by omega)
  | j + 1, k + 1, p, h, hd, he => by
    have h0 : 48 ≤ tx T L p ∧ tx T L p ≤ 57 := hd 0 (by omega)
    have ih := ndg_of (T := T) (L := L) (j := j) (most := k) (p := p + 1) (by omega) (fun i hi => by
      have := hd (i + 1) (by omega)
      rwa [show p + 1 + i = p + (i + 1) by omega]) (by
      rcases he with e | e
      · exact .inl (by omega)
      · exact .inr (by rwa [show p + 1 + j = p + (j + 1) by omega]))
    show (if 48 ≤ tx T L p ∧ tx T L p ≤ 57 then ndg T L (p + 1) k + 1 else 0) = j + 1
    rw [if_pos h0, ih]
def dS4 (T : Nat → Int) (L q y f : Nat) (sg : Int) (t : Nat) : hRd := if sg = 62 ∨ sg = 93 then (if ndg T L q 4 = 0 then (none, lfl 1 q) else (some (q + ndg T L q 4, (y, f, sg, t, (lnum T q (ndg T L q 4)).toNat)), 0)) else (some (q, (y, f, sg, t, 0)), 0)
def dS3 (T : Nat → Int) (L q y f : Nat) (sg : Int) : hRd := if 97 ≤ tx T L q ∧ tx T L q ≤ 104 then (if tx T L q - 97 = (f : Int) then (none, lfl 6 q) else dS4 T L (q + 1) y f sg (tx T L q - 97).toNat) else (none, lfl 1 q)
def dS2 (T : Nat → Int) (L q y f : Nat) : hRd := if tx T L q = 62 ∨ tx T L q = 93 ∨ tx T L q = 91 ∨ tx T L q = 61 then dS3 T L (q + 1) y f (tx T L q) else (none, lfl 1 q)
def dS1 (T : Nat → Int) (L p q : Nat) (y : Int) : hRd := if 40 ≤ y then (none, lfl 3 p) else if 97 ≤ tx T L q ∧ tx T L q ≤ 104 then dS2 T L (q + 1) y.toNat (tx T L q - 97).toNat else (none, lfl 1 q)
def dRd (T : Nat → Int) (L p i : Nat) : hRd := if ndg T L p 2 = 0 then (none, lfl 1 p) else if 16 ≤ i then (none, lfl 4 p) else dS1 T L p (p + ndg T L p 2) (lnum T p (ndg T L p 2))
def dAll (T : Nat → Int) (L : Nat) : Nat → Nat → List hAct → List hAct ⊕ Int
  | 0, p, _ => .inr (lfl 1 p)
  | d + 1, p, A => match dRd T L p A.length with
    | (none, f) => .inr f
    | (some (p', a), _) => if L ≤ p' then .inl (A ++ [a]) else if tx T L p' = 59 then dAll T L d (p' + 1) (A ++ [a]) else .inr (lfl 1 p')
/-- an act as it was read -/
def aOK (a : hAct) : Prop := a.1 < 40 ∧ a.2.1 < 8 ∧ a.2.2.2.1 < 8 ∧ a.2.1 ≠ a.2.2.2.1 ∧ (a.2.2.1 = 62 ∨ a.2.2.1 = 93 ∨ a.2.2.1 = 91 ∨ a.2.2.1 = 61) ∧ a.2.2.2.2 < 10000
theorem ndg_dg {T : Nat → Int} {L : Nat} : ∀ {most p : Nat}, ∀ i, i < ndg T L p most → isDg (tx T L (p + i))
  | 0, p, i, h => absurd h (Nat.not_lt_zero _)
  | k + 1, p, i, h => by
    unfold ndg at h
    split at h
    · rename_i c
      cases i with
      | zero => exact c
      | succ i =>
        have := ndg_dg (T := T) (L := L) (most := k) (p := p + 1) i (by omega)
        rwa [show p + 1 + i = p + (i + 1) by omega] at this
    · exact absurd h (Nat.not_lt_zero _)
theorem ndg_le {T : Nat → Int} {L : Nat} : ∀ (most p : Nat), ndg T L p most ≤ most
  | 0, p => Nat.le_refl _
  | k + 1, p => by
    unfold ndg
    split
    · have := ndg_le (T := T) (L := L) k (p + 1)
      omega
    · omega
theorem ndg_end {T : Nat → Int} {L : Nat} (most p : Nat) (hp : p ≤ L) : p + ndg T L p most ≤ L := by
  by_cases c : ndg T L p most = 0
  · omega
  · have := isDg_lt (ndg_dg (T := T) (L := L) (most := most) (p := p) (ndg T L p most - 1) (by omega))
    omega
theorem dRd_ok {T : Nat → Int} {L p i p' : Nat} {a : hAct} {f : Int} (hp : p ≤ L) (h : dRd T L p i = (some (p', a), f)) : aOK a ∧ p < p' ∧ p' ≤ L ∧ i < 16 := by
  unfold dRd at h
  split at h
  · cases h
  split at h
  · cases h
  rename_i c1 c2
  unfold dS1 at h
  split at h
  · cases h
  rename_i c3
  have e1 := ndg_end (T := T) 2 p hp
  have b1 := (lnum_bd (T := T) (L := L) (p := p) _ (ndg_dg (most := 2))).1
  split at h
  case isFalse => cases h
  rename_i c4
  have l4 : p + ndg T L p 2 < L := tx_lt (T := T) (by omega)
  unfold dS2 at h
  split at h
  case isFalse => cases h
  rename_i c5
  have l5 : p + ndg T L p 2 + 1 < L := tx_lt (T := T) (by omega)
  unfold dS3 at h
  split at h
  case isFalse => cases h
  rename_i c6
  have l6 : p + ndg T L p 2 + 1 + 1 < L := tx_lt (T := T) (by omega)
  split at h
  · cases h
  rename_i c7
  unfold dS4 at h
  split at h
  · split at h
    · cases h
    rename_i c8 c9
    have b2 := lnum_bd (T := T) (L := L) (p := p + ndg T L p 2 + 1 + 1 + 1) _ (ndg_dg (most := 4))
    have b3 := ndg_le (T := T) (L := L) 4 (p + ndg T L p 2 + 1 + 1 + 1)
    have e2 := ndg_end (T := T) 4 (p + ndg T L p 2 + 1 + 1 + 1) l6
    have b4 : lpw (ndg T L (p + ndg T L p 2 + 1 + 1 + 1) 4) ≤ 10000 := by
      generalize ndg T L (p + ndg T L p 2 + 1 + 1 + 1) 4 = j at b3
      have : j = 0 ∨ j = 1 ∨ j = 2 ∨ j = 3 ∨ j = 4 := by omega
      rcases this with rfl | rfl | rfl | rfl | rfl <;> decide
    cases h
    refine ⟨⟨?_, ?_, ?_, ?_, c5, ?_⟩, by omega, e2, by omega⟩ <;> dsimp only <;> omega
  · cases h
    refine ⟨⟨?_, ?_, ?_, ?_, c5, ?_⟩, by omega, by omega, by omega⟩ <;> dsimp only <;> omega
theorem dAll_ok {T : Nat → Int} {L : Nat} : ∀ {d p : Nat} {A B : List hAct}, p ≤ L → (∀ a ∈ A, aOK a) → dAll T L d p A = .inl B → (∀ a ∈ B, aOK a) ∧ 1 ≤ B.length ∧ B.length ≤ 16
  | 0, p, A, B, _, _, h => by cases h
  | d + 1, p, A, B, hp, hA, h => by
    unfold dAll at h
    split at h
    · cases h
    · rename_i p' a f e
      obtain ⟨h1, h2, h3, h4⟩ := dRd_ok hp e
      have hA' : ∀ b ∈ A ++ [a], aOK b := fun b hb => by
        rcases List.mem_append.mp hb with hb | hb
        · exact hA b hb
        · rw [List.mem_singleton] at hb
          rw [hb]
          exact h1
      split at h
      · cases h
        rw [List.length_append, List.length_singleton]
        exact ⟨hA', by omega, by omega⟩
      · split at h
        · exact dAll_ok (by omega) hA' h
        · cases h
def cAc (A : List hAct) (m : gx_M) : Prop := m 61 5 = (A.length : Int) ∧ ∀ i a, A[i]? = some a → m 62 i = (a.1 : Int) ∧ m 63 i = (a.2.1 : Int) ∧ m 64 i = a.2.2.1 ∧ m 65 i = (a.2.2.2.1 : Int) ∧ m 66 i = (a.2.2.2.2 : Int)
def cF3 (m0 m : gx_M) : Prop := ∀ c, c ≠ 3 → m c = m0 c
def cFd (m0 m : gx_M) : Prop := ∀ c, (c < 61 ∨ 66 < c) → c ≠ 3 → m c = m0 c
theorem cF3_d {m0 m : gx_M} (h : cF3 m0 m) : cFd m0 m := fun c _ h3 => h c h3
theorem cFd_t {m m1 m2 : gx_M} (h : cFd m m1) (h' : cFd m1 m2) : cFd m m2 := fun c a b => (h' c a b).trans (h c a b)
theorem cF3_t {m m1 m2 : gx_M} (h : cF3 m m1) (h' : cF3 m1 m2) : cF3 m m2 := fun c a => (h' c a).trans (h c a)
theorem cAc_3 {A : List hAct} {m0 m : gx_M} (h : cF3 m0 m) (hA : cAc A m0) : cAc A m := by
  unfold cAc
  rw [h 61 (by decide), h 62 (by decide), h 63 (by decide), h 64 (by decide), h 65 (by decide), h 66 (by decide)]
  exact hA
section DT
variable {xs : List Int32} {n : Nat} {Q : hQ} {T : Nat → Int} {L p : Nat} {m : gx_M}
theorem cT30 (hS : cTx T L p m) (hp : p < L) (hL : L ≤ 240) (h : ∀ m', cTx T L (p + 1) m' → cF3 m m' → Q none m') : hxn xs n yp_m30 0 [(0, .inr (.inl 3))] [] m Q := by
  obtain ⟨t1, t2, t3, t4, t5⟩ := hS
  refine hx_dn (hr30_0 (by omega) (fun c => absurd c (by omega)) (fun _ => ?_))
  rw [t2]
  refine cs25 (p := p + 1) (T := T) (L := L) ?_ (fun k hk => ?_) hL ?_
  · rw [gx_u_ne (by omega)]
    exact t1
  · rw [gx_u_ne (by omega)]
    exact t5 k hk
  · refine hx_dn (hr30_30 (h _ ⟨?_, ?_, ?_, ?_, fun k hk => ?_⟩ (fun c hc => ?_)))
    · rw [gx_u_ne (by omega), gx_u_ne (by omega)]
      exact t1
    · rw [gx_u_ne (by omega), gx_u_self]
      omega
    · rw [gx_u_self]
    · rw [gx_u_ne (by omega), gx_u_ne (by omega)]
      exact t4
    · rw [gx_u_ne (by omega), gx_u_ne (by omega)]
      exact t5 k hk
    · rw [gx_u_off hc, gx_u_off hc]
theorem cT29 (t4 : m 3 4 = 0) (hL : p ≤ 240) {a : Int} (ha : 0 ≤ a ∧ a ≤ 9) (h : ∀ m', m' 3 4 = lfl a p → cF3 m m' → Q (some (.inl 0)) m') : hxn xs n yp_m29 0 [(0, .inr (.inl 3)), (1, .inl a), (2, .inl (p : Int))] [] m Q := by
  refine hx_dn (hr29_0 (fun c => absurd t4 c) (fun _ => h _ ?_ (fun c hc => gx_u_off hc)))
  rw [gx_u_self, gx_w_id (x := (-1000) * a) (by omega) (by omega), gx_w_id (by omega) (by omega)]
  rfl
theorem cT28 (hS : cTx T L p m) (hL : p ≤ 240) (h : ∀ m', m' 3 4 = lfl 1 p → cF3 m m' → Q (some (.inl 0)) m') : hxn xs n yp_m28 0 [(0, .inr (.inl 3))] [] m Q := by
  refine hx_dn (hr28_0 ?_)
  rw [hS.2.1]
  exact cT29 hS.2.2.2.1 hL (by decide) (fun m' h1 h2 => hx_dn (hr28_9 (h m' h1 h2)))
theorem cT37 (hS : cTx T L p m) (hL : L ≤ 240) (hp : p ≤ L) {c : Int} (hc : c ≠ -1) (h1 : tx T L p = c → ∀ m', cTx T L (p + 1) m' → cF3 m m' → Q (some (.inl 1)) m') (h0 : tx T L p ≠ c → ∀ m', m' 3 4 = lfl 1 p → cF3 m m' → Q (some (.inl 0)) m') : hxn xs n yp_m37 0 [(0, .inr (.inl 3)), (1, .inl c)] [] m Q := by
  refine hx_dn (hr37_0 (fun e => ?_) (fun e => ?_))
  · rw [hS.2.2.1] at e
    exact cT30 hS (tx_lt (T := T) (by rw [e]; exact hc)) hL (fun m' hm hf => hx_dn (hr37_17 (h1 e m' hm hf)))
  · rw [hS.2.2.1] at e
    exact cT28 hS (by omega) (fun m' hm hf => hx_dn (hr37_12 (h0 e m' hm hf)))
theorem cT35 {most : Nat} (hm : most ≤ 5) (hL : L ≤ 240) (hS : cTx T L p m) (h : ∀ m', cTx T L (p + ndg T L p most) m' → cF3 m m' → Q (some (.inl (lnum T p (ndg T L p most)))) m') : hxn xs n yp_m35 0 [(0, .inr (.inl 3)), (1, .inl (most : Int))] [] m Q := by
  have hl : ∀ e j : Nat, j + e = most → ∀ m', cTx T L (p + j) m' → cF3 m m' → (∀ i, i < j → isDg (tx T L (p + i))) → hxn xs n yp_m35 4 [(0, .inr (.inl 3)), (1, .inl (most : Int)), (2, .inl (lnum T p j)), (3, .inl (j : Int))] [] m' Q := by
    intro e
    induction e with
    | zero =>
      intro j hj m' hS hf hd
      have e : j = most := by omega
      subst e
      have en := ndg_of (Nat.le_refl j) hd (.inl rfl)
      have := h m' (by rw [en]; exact hS) hf
      rw [en] at this
      exact hx_dn (hr35_4 (by omega) (fun _ => this) (fun c => absurd c (by omega)) (fun c => absurd c (by omega)))
    | succ e ih =>
      intro j hj m' hS hf hd
      refine hx_dn (hr35_4 (by omega) (fun c => absurd c (by omega)) (fun _ c => ?_) (fun _ c => ?_))
      · rw [hS.2.2.1] at c ⊢
        have hlt := isDg_lt c
        have hd2 : ∀ i, i < j + 1 → isDg (tx T L (p + i)) := fun i hi => by
          by_cases e : i = j
          · rw [e]
            exact c
          · exact hd i (by omega)
        have b1 := lnum_bd (T := T) (L := L) (p := p) j hd
        have b2 := lpw_le (j := j) (by omega)
        have c2 : 48 ≤ T (p + j) ∧ T (p + j) ≤ 57 := by
          rw [tx_eq hlt] at c
          exact c
        have ev : gx_w (gx_w (gx_w (10 * lnum T p j) + tx T L (p + j)) - 48) = lnum T p (j + 1) := by
          rw [tx_eq hlt, gx_w_id (x := 10 * lnum T p j) (by omega) (by omega), gx_w_id (x := 10 * lnum T p j + T (p + j)) (by omega) (by omega), gx_w_id (by omega) (by omega)]
          rfl
        rw [ev]
        exact cT30 hS hlt hL (fun m2 h2 f2 => hx_dn (hr35_33 (by omega) (ih (j + 1) (by omega) m2 h2 (cF3_t hf f2) hd2)))
      · rw [hS.2.2.1] at c
        have en := ndg_of (most := most) (by omega) hd (.inr c)
        have := h m' (by rw [en]; exact hS) hf
        rw [en] at this
        exact this
  exact hx_dn (hr35_0 (hl most 0 (Nat.zero_add _) m hS (fun _ _ => rfl) (fun i hi => absurd hi (by omega))))
/-! an act -/
def dPC (T : Nat → Int) (L : Nat) (A : List hAct) (m0 : gx_M) (r : hRd) (v : Int) (m : gx_M) : Prop := cFd m0 m ∧ match r with
  | (some (p', a), _) => v = 1 ∧ cTx T L p' m ∧ cAc (A ++ [a]) m
  | (none, f) => v = 0 ∧ m 3 4 = f
theorem cAc_app {A : List hAct} {a : hAct} {M : gx_M} (hA : ∀ i b, A[i]? = some b → M 62 i = (b.1 : Int) ∧ M 63 i = (b.2.1 : Int) ∧ M 64 i = b.2.2.1 ∧ M 65 i = (b.2.2.2.1 : Int) ∧ M 66 i = (b.2.2.2.2 : Int)) (h5 : M 61 5 = (A.length : Int) + 1) (e : M 62 A.length = (a.1 : Int) ∧ M 63 A.length = (a.2.1 : Int) ∧ M 64 A.length = a.2.2.1 ∧ M 65 A.length = (a.2.2.2.1 : Int) ∧ M 66 A.length = (a.2.2.2.2 : Int)) : cAc (A ++ [a]) M := by
  refine ⟨by rw [List.length_append, List.length_singleton, h5]; rfl, fun i b hb => ?_⟩
  rcases lg_app hb with hb | ⟨rfl, rfl⟩
  · exact hA i b hb
  · exact e
variable {A : List hAct} {m0 : gx_M} {y f t : Nat} {sg : Int}
theorem c52_133 (hL : L ≤ 240) (hp : p ≤ L) (hS : cTx T L p m) (hA : cAc A m) (h16 : A.length < 16) (hf : cFd m0 m) (e : m 62 A.length = (y : Int) ∧ m 63 A.length = (f : Int) ∧ m 64 A.length = sg ∧ m 65 A.length = (t : Int)) (hQ : ∀ v m', dPC T L A m0 (dS4 T L p y f sg t) v m' → Q (some (.inl v)) m') : hxn xs n yp_m52 133 [(0, .inr (.inl 61)), (1, .inr (.inl 3)), (2, .inl sg)] [] m Q := by
  have hi := hA.1
  have pri : (sg = 62 ∨ sg = 93) → isDg (m 3 3) → hxn xs n yp_m35 0 [(0, .inr (.inl 3)), (1, .inl 4)] [] m (fun r m' => hxn xs n yp_m52 184 [(0, .inr (.inl 61))] (hrs r ++ [.inl (m 61 5), .inr (.inl 66)]) m' Q) := fun hs hd => by
    rw [hS.2.2.1] at hd
    have hd : 48 ≤ tx T L p ∧ tx T L p ≤ 57 := hd
    have hnd : ndg T L p 4 ≠ 0 := by
      unfold ndg
      rw [if_pos hd]
      omega
    refine cT35 (most := 4) (by decide) hL hS (fun m1 h1 g1 => ?_)
    have b2 := (lnum_bd (T := T) (L := L) (p := p) _ (ndg_dg (most := 4))).1
    refine hx_dn (hr52_184 ?_)
    rw [hi, Int.toNat_natCast, g1 61 (by decide), hi, gx_w_id (by omega) (by omega)]
    refine hQ 1 _ ⟨fun c hc h3 => ?_, ?_⟩
    · rw [gx_u_off (by omega), gx_u_off (by omega), g1 c h3]
      exact hf c hc h3
    · unfold dS4
      rw [if_pos hs, if_neg hnd]
      refine ⟨rfl, ?_, cAc_app (fun i b hb => ?_) (by rw [gx_u_self]) ?_⟩
      · unfold cTx
        rw [gx_u_off (by decide), gx_u_off (by decide), gx_u_off (by decide), gx_u_off (by decide)]
        exact h1
      · have hlt := lg_lt hb
        rw [gx_u_ne (by omega), gx_u_ne (by omega), gx_u_ne (by omega), gx_u_ne (by omega), gx_u_ne (by omega), gx_u_ne (by omega), gx_u_ne (by omega), gx_u_ne (by omega), gx_u_ne (by omega), gx_u_ne (by omega), g1 62 (by decide), g1 63 (by decide), g1 64 (by decide), g1 65 (by decide), g1 66 (by decide)]
        exact hA.2 i b hb
      · rw [gx_u_ne (by omega), gx_u_ne (by omega), gx_u_ne (by omega), gx_u_ne (by omega), gx_u_ne (by omega), gx_u_ne (by omega), gx_u_ne (by omega), gx_u_ne (by omega), gx_u_ne (by omega), gx_u_self, g1 62 (by decide), g1 63 (by decide), g1 64 (by decide), g1 65 (by decide)]
        exact ⟨e.1, e.2.1, e.2.2.1, e.2.2.2, by dsimp only; omega⟩
  have bad : (sg = 62 ∨ sg = 93) → ¬ isDg (m 3 3) → hxn xs n yp_m28 0 [(0, .inr (.inl 3))] [] m (fun r m' => hxn xs n yp_m52 166 [] (hrs r ++ []) m' Q) := fun hs hd => by
    rw [hS.2.2.1] at hd
    refine cT28 hS (by omega) (fun m1 h1 g1 => hx_dn (hr52_166 (hQ 0 m1 ⟨cFd_t hf (cF3_d g1), ?_⟩)))
    unfold dS4
    rw [if_pos hs, if_pos (ndg_of (j := 0) (by omega) (fun i hi => absurd hi (by omega)) (.inr hd))]
    exact ⟨rfl, h1⟩
  refine hx_dn (hr52_133 (fun a b => pri (.inl a) b) (fun a b => bad (.inl a) b) (fun a b => ?_) (fun _ a b => pri (.inr a) b) (fun _ a b => bad (.inr a) b))
  rw [hi, Int.toNat_natCast, gx_w_id (by omega) (by omega)]
  refine hQ 1 _ ⟨fun c hc h3 => ?_, ?_⟩
  · rw [gx_u_off (by omega), gx_u_off (by omega)]
    exact hf c hc h3
  · unfold dS4
    rw [if_neg (by omega)]
    refine ⟨rfl, ?_, cAc_app (fun i b hb => ?_) (by rw [gx_u_self]) ?_⟩
    · unfold cTx
      rw [gx_u_off (by decide), gx_u_off (by decide), gx_u_off (by decide), gx_u_off (by decide)]
      exact hS
    · have hlt := lg_lt hb
      rw [gx_u_ne (by omega), gx_u_ne (by omega), gx_u_ne (by omega), gx_u_ne (by omega), gx_u_ne (by omega), gx_u_ne (by omega), gx_u_ne (by omega), gx_u_ne (by omega), gx_u_ne (by omega), gx_u_ne (by omega)]
      exact hA.2 i b hb
    · rw [gx_u_ne (by omega), gx_u_ne (by omega), gx_u_ne (by omega), gx_u_ne (by omega), gx_u_ne (by omega), gx_u_ne (by omega), gx_u_ne (by omega), gx_u_ne (by omega), gx_u_ne (by omega), gx_u_self]
      exact ⟨e.1, e.2.1, e.2.2.1, e.2.2.2, rfl⟩
/-- one write at the row's end -/
theorem cw_end {c : Nat} {v : Int} (hc : 62 ≤ c ∧ c ≤ 66) (hS : cTx T L p m) (hA : cAc A m) (hf : cFd m0 m) : cTx T L p (gx_u m c A.length v) ∧ cAc A (gx_u m c A.length v) ∧ cFd m0 (gx_u m c A.length v) := by
  refine ⟨?_, ⟨?_, fun i a ha => ?_⟩, fun c' h1 h3 => ?_⟩
  · unfold cTx
    rw [gx_u_off (by omega), gx_u_off (by omega)]
    exact hS
  · rw [gx_u_ne (by omega)]
    exact hA.1
  · have hlt := lg_lt ha
    rw [gx_u_ne (by omega), gx_u_ne (by omega), gx_u_ne (by omega), gx_u_ne (by omega), gx_u_ne (by omega)]
    exact hA.2 i a ha
  · rw [gx_u_off (by omega)]
    exact hf c' h1 h3
theorem c52_66 (hL : L ≤ 240) (hp : p ≤ L) (hS : cTx T L p m) (hA : cAc A m) (h16 : A.length < 16) (hf : cFd m0 m) (e : m 62 A.length = (y : Int) ∧ m 63 A.length = (f : Int) ∧ m 64 A.length = sg) (hQ : ∀ v m', dPC T L A m0 (dS3 T L p y f sg) v m' → Q (some (.inl v)) m') : hxn xs n yp_m52 66 [(0, .inr (.inl 61)), (1, .inr (.inl 3)), (2, .inl sg)] [] m Q := by
  have hi := hA.1
  refine hx_dn (hr52_66 (fun a => ?_) (fun a => ?_))
  · rw [hS.2.2.1] at a ⊢
    have a' : 97 ≤ tx T L p ∧ tx T L p ≤ 104 := a
    rw [hi, Int.toNat_natCast, gx_w_id (by omega) (by omega)]
    obtain ⟨w1, w2, w3⟩ := cw_end (c := 65) (v := tx T L p - 97) (by decide) hS hA hf
    have e65 : gx_u m 65 A.length (tx T L p - 97) 65 A.length = tx T L p - 97 := gx_u_self
    have e62 : gx_u m 65 A.length (tx T L p - 97) 62 A.length = (y : Int) ∧ gx_u m 65 A.length (tx T L p - 97) 63 A.length = (f : Int) ∧ gx_u m 65 A.length (tx T L p - 97) 64 A.length = sg := by
      rw [gx_u_ne (by omega), gx_u_ne (by omega), gx_u_ne (by omega)]
      exact e
    generalize gx_u m 65 A.length (tx T L p - 97) = M at w1 w2 w3 e65 e62 ⊢
    refine hx_dn (hr52_97 (fun b => ?_) (fun b => ?_))
    · rw [w2.1, Int.toNat_natCast, e65, e62.2.1] at b
      refine cT30 w1 (tx_lt (T := T) (by omega)) hL (fun m1 h1 g1 => ?_)
      refine c52_133 (y := y) (f := f) (t := (tx T L p - 97).toNat) hL (tx_lt (T := T) (by omega)) h1 (cAc_3 g1 w2) h16 (cFd_t w3 (cF3_d g1)) ?_ (fun v m' h => hQ v m' ?_)
      · rw [g1 62 (by decide), g1 63 (by decide), g1 64 (by decide), g1 65 (by decide), e65]
        exact ⟨e62.1, e62.2.1, e62.2.2, by omega⟩
      · unfold dS3
        rw [if_pos a', if_neg b]
        exact h
    · rw [w2.1, Int.toNat_natCast, e65, e62.2.1] at b
      rw [w1.2.1]
      refine cT29 w1.2.2.2.1 (by omega) (by decide) (fun m1 h1 g1 => hx_dn (hr52_128 (hQ 0 m1 ⟨cFd_t w3 (cF3_d g1), ?_⟩)))
      unfold dS3
      rw [if_pos a', if_pos b]
      exact ⟨rfl, h1⟩
  · rw [hS.2.2.1] at a
    refine cT28 hS (by omega) (fun m1 h1 g1 => hx_dn (hr52_80 (hQ 0 m1 ⟨cFd_t hf (cF3_d g1), ?_⟩)))
    unfold dS3
    rw [if_neg (show ¬ (97 ≤ tx T L p ∧ tx T L p ≤ 104) from a)]
    exact ⟨rfl, h1⟩
theorem c52_0 (hL : L ≤ 240) (hp : p ≤ L) (hS : cTx T L p m) (hA : cAc A m) (h16 : A.length < 16) (hf : cFd m0 m) (e : m 62 A.length = (y : Int) ∧ m 63 A.length = (f : Int)) (hQ : ∀ v m', dPC T L A m0 (dS2 T L p y f) v m' → Q (some (.inl v)) m') : hxn xs n yp_m52 0 [(0, .inr (.inl 61)), (1, .inr (.inl 3))] [] m Q := by
  have hi := hA.1
  have good : (tx T L p = 62 ∨ tx T L p = 93 ∨ tx T L p = 91 ∨ tx T L p = 61) → hxn xs n yp_m30 0 [(0, .inr (.inl 3))] [] (gx_u m 64 (m 61 5).toNat (m 3 3)) (fun r m' => hxn xs n yp_m52 66 [(0, .inr (.inl 61)), (1, .inr (.inl 3)), (2, .inl (m 3 3))] (hrs r ++ []) m' Q) := fun hs => by
    rw [hi, Int.toNat_natCast, hS.2.2.1]
    obtain ⟨w1, w2, w3⟩ := cw_end (c := 64) (v := tx T L p) (by decide) hS hA hf
    refine cT30 w1 (tx_lt (T := T) (by omega)) hL (fun m1 h1 g1 => ?_)
    refine c52_66 (y := y) (f := f) hL (tx_lt (T := T) (by omega)) h1 (cAc_3 g1 w2) h16 (cFd_t w3 (cF3_d g1)) ?_ (fun v m' h => hQ v m' ?_)
    · rw [g1 62 (by decide), g1 63 (by decide), g1 64 (by decide), gx_u_ne (by omega), gx_u_ne (by omega), gx_u_self]
      exact ⟨e.1, e.2, rfl⟩
    · unfold dS2
      rw [if_pos hs]
      exact h
  refine hx_dn (hr52_0 (fun c => absurd c (by omega)) (fun _ _ a => good (by rw [← hS.2.2.1]; omega)) (fun _ _ _ a => good (by rw [← hS.2.2.1]; omega)) (fun _ _ _ _ a => good (by rw [← hS.2.2.1]; omega)) (fun _ _ _ _ _ a => good (by rw [← hS.2.2.1]; omega)) (fun _ _ a b c d => ?_) (fun _ c => absurd c (by omega)))
  rw [hS.2.2.1] at a b c d
  refine cT28 hS (by omega) (fun m1 h1 g1 => hx_dn (hr52_51 (hQ 0 m1 ⟨cFd_t hf (cF3_d g1), ?_⟩)))
  unfold dS2
  rw [if_neg (by omega)]
  exact ⟨rfl, h1⟩
theorem c50_0 (hL : L ≤ 240) (hp : p ≤ L) (hS : cTx T L p m) (hA : cAc A m) (h16 : A.length ≤ 16) (hf : cFd m0 m) (hQ : ∀ v m', dPC T L A m0 (dRd T L p A.length) v m' → Q (some (.inl v)) m') : hxn xs n yp_m50 0 [(0, .inr (.inl 61)), (1, .inr (.inl 3))] [] m Q := by
  have hi := hA.1
  have hd0 : isDg (m 3 3) → ndg T L p 2 ≠ 0 := fun hd => by
    rw [hS.2.2.1] at hd
    have hd : 48 ≤ tx T L p ∧ tx T L p ≤ 57 := hd
    unfold ndg
    rw [if_pos hd]
    omega
  refine hx_dn (hr50_0 (fun _ c => absurd c (by omega)) (fun a _ b => ?_) (fun a _ b => ?_) (fun a => ?_))
  · have h0 := hd0 a
    refine cT35 (most := 2) (by decide) hL hS (fun m1 h1 g1 => ?_)
    have hpe := ndg_end (T := T) 2 p hp
    obtain ⟨b2, -⟩ := lnum_bd (T := T) (L := L) (p := p) _ (ndg_dg (most := 2))
    have hi1 : m1 61 5 = (A.length : Int) := by rw [g1 61 (by decide)]; exact hi
    have hA1 := cAc_3 g1 hA
    have hf1 := cFd_t hf (cF3_d g1)
    have hR : dRd T L p A.length = dS1 T L p (p + ndg T L p 2) (lnum T p (ndg T L p 2)) := by
      unfold dRd
      rw [if_neg h0, if_neg (by omega)]
    rw [hR] at hQ
    obtain ⟨w1, w2, w3⟩ := cw_end (c := 62) (v := lnum T p (ndg T L p 2)) (by decide) h1 hA1 hf1
    refine hx_dn (hr50_53 (fun c d => ?_) (fun c d => ?_) (fun c => ?_))
    · rw [hi, Int.toNat_natCast, hi1, Int.toNat_natCast, gx_u_self] at c
      rw [h1.2.2.1] at d
      have d' : 97 ≤ tx T L (p + ndg T L p 2) ∧ tx T L (p + ndg T L p 2) ≤ 104 := d
      rw [hi, Int.toNat_natCast, hi1, Int.toNat_natCast, h1.2.2.1, gx_w_id (by omega) (by omega)]
      obtain ⟨u1, u2, u3⟩ := cw_end (c := 63) (v := tx T L (p + ndg T L p 2) - 97) (by decide) w1 w2 w3
      refine cT30 u1 (tx_lt (T := T) (by omega)) hL (fun m2 h2 g2 => ?_)
      refine hx_dn (hr50_110 ?_)
      refine c52_0 (y := (lnum T p (ndg T L p 2)).toNat) (f := (tx T L (p + ndg T L p 2) - 97).toNat) hL (tx_lt (T := T) (by omega)) h2 (cAc_3 g2 u2) (by omega) (cFd_t u3 (cF3_d g2)) ?_ (fun v m' h => hx_dn (hr50_115 (hQ v m' ?_)))
      · rw [g2 62 (by decide), g2 63 (by decide), gx_u_ne (by omega), gx_u_self, gx_u_self]
        exact ⟨by omega, by omega⟩
      · unfold dS1
        rw [if_neg (by omega), if_pos d']
        exact h
    · rw [hi, Int.toNat_natCast, hi1, Int.toNat_natCast, gx_u_self] at c
      rw [h1.2.2.1] at d
      rw [hi, Int.toNat_natCast]
      refine cT28 w1 (by omega) (fun m2 h2 g2 => hx_dn (hr50_89 (hQ 0 m2 ⟨cFd_t w3 (cF3_d g2), ?_⟩)))
      unfold dS1
      rw [if_neg (by omega), if_neg (show ¬ (97 ≤ tx T L (p + ndg T L p 2) ∧ tx T L (p + ndg T L p 2) ≤ 104) from d)]
      exact ⟨rfl, h2⟩
    · rw [hi, Int.toNat_natCast, hi1, Int.toNat_natCast, gx_u_self] at c
      rw [hi, Int.toNat_natCast, hS.2.1]
      refine cT29 w1.2.2.2.1 (by omega) (by decide) (fun m2 h2 g2 => hx_dn (hr50_74 (hQ 0 m2 ⟨cFd_t w3 (cF3_d g2), ?_⟩)))
      unfold dS1
      rw [if_pos c]
      exact ⟨rfl, h2⟩
  · have h0 := hd0 a
    rw [hS.2.1]
    refine cT29 hS.2.2.2.1 (by omega) (by decide) (fun m2 h2 g2 => hx_dn (hr50_39 (hQ 0 m2 ⟨cFd_t hf (cF3_d g2), ?_⟩)))
    unfold dRd
    rw [if_neg h0, if_pos (by omega)]
    exact ⟨rfl, h2⟩
  · rw [hS.2.2.1] at a
    refine cT28 hS (by omega) (fun m2 h2 g2 => hx_dn (hr50_11 (hQ 0 m2 ⟨cFd_t hf (cF3_d g2), ?_⟩)))
    unfold dRd
    rw [if_pos (ndg_of (j := 0) (by omega) (fun i hi => absurd hi (by omega)) (.inr a))]
    exact ⟨rfl, h2⟩
/-- the class reads deals -/
def dPA (m0 : gx_M) (r : List hAct ⊕ Int) (v : Int) (m : gx_M) : Prop := cFd m0 m ∧ match r with
  | .inl A => v = 1 ∧ cAc A m
  | .inr f => v = 0 ∧ m 3 4 = f
theorem c49l (hL : L ≤ 240) : ∀ d i p : Nat, i + d = 17 → i ≤ 16 → p ≤ L → ∀ (A : List hAct) (m : gx_M), A.length = i → cTx T L p m → cAc A m → cFd m0 m → (∀ v m', dPA m0 (dAll T L d p A) v m' → Q (some (.inl v)) m') → hxn xs n yp_m49 7 [(0, .inr (.inl 61)), (1, .inr (.inl 3)), (2, .inl (i : Int))] [] m Q := by
  intro d
  induction d with
  | zero =>
    intro i p hi h16 hp A m hl hS hA hf hQ
    exact absurd h16 (by omega)
  | succ d ih =>
    intro i p hi h16 hp A m hl hS hA hf hQ
    refine hx_dn (hr49_7 (fun c => absurd c (by omega)) (fun _ => ?_))
    refine c50_0 hL hp hS hA (by omega) hf (fun v m1 h1 => ?_)
    unfold dAll at hQ
    unfold dPC at h1
    cases hR : dRd T L p A.length with
    | mk o f =>
      rw [hR] at h1 hQ
      cases o with
      | none =>
        obtain ⟨hf1, rfl, h4⟩ := h1
        exact hx_dn (hr49_18 (fun c => absurd rfl c) (fun _ => hQ 0 m1 ⟨hf1, rfl, h4⟩))
      | some pa =>
        obtain ⟨p', a⟩ := pa
        obtain ⟨hf1, rfl, hS1, hA1⟩ := h1
        obtain ⟨-, -, hpL, h17⟩ := dRd_ok hp hR
        dsimp only at hQ
        refine hx_dn (hr49_18 (fun _ => ?_) (fun c => absurd c (by decide)))
        refine hx_dn (hr46_0 (fun c => ?_) (fun c => ?_))
        · rw [hS1.2.1, hS1.1] at c
          rw [if_neg (by omega)] at hQ
          refine hx_dn (hr49_27 (fun _ => ?_) (fun c => absurd rfl c))
          refine cT37 hS1 hL hpL (by decide) (fun e m2 h2 g2 => ?_) (fun e m2 h2 g2 => ?_)
          · rw [if_pos e] at hQ
            refine hx_dn (hr49_38 (fun _ => ?_) (fun c => absurd c (by decide)))
            rw [ew_u (by omega)]
            exact ih (i + 1) (p' + 1) (by omega) (by omega) (by omega) (A ++ [a]) m2 (by rw [List.length_append, List.length_singleton, hl]) h2 (cAc_3 g2 hA1) (cFd_t hf1 (cF3_d g2)) hQ
          · rw [if_neg e] at hQ
            exact hx_dn (hr49_38 (fun c => absurd rfl c) (fun _ => hQ 0 m2 ⟨cFd_t hf1 (cF3_d g2), rfl, h2⟩))
        · rw [hS1.2.1, hS1.1] at c
          rw [if_pos (by omega)] at hQ
          exact hx_dn (hr49_27 (fun c => absurd c (by decide)) (fun _ => hQ 1 m1 ⟨hf1, rfl, hA1⟩))
theorem c49 (hL : L ≤ 240) (hS : cTx T L 0 m) (hQ : ∀ v m', dPA m (dAll T L 17 0 []) v m' → Q (some (.inl v)) m') : hxn xs n yp_m49 0 [(0, .inr (.inl 61)), (1, .inr (.inl 3))] [] m Q := by
  refine hx_dn (hr49_0 ?_)
  refine c49l hL 17 0 0 rfl (Nat.zero_le _) (Nat.zero_le _) [] _ rfl ?_ ⟨gx_u_self, fun i a ha => by cases ha⟩ (fun c h1 h3 => gx_u_off (by omega)) hQ
  unfold cTx
  rw [gx_u_off (by decide), gx_u_off (by decide)]
  exact hS
end DT
end
section
/-! deals' text as the reference reads it -/
def rAc (A : List hAct) (m : gx_M) : Prop := m 86 32 = (A.length : Int) ∧ ∀ i a, A[i]? = some a → m 104 i = (a.1 : Int) ∧ m 105 i = (a.2.1 : Int) ∧ m 106 i = a.2.2.1 ∧ m 107 i = (a.2.2.2.1 : Int) ∧ m 108 i = (a.2.2.2.2 : Int)
def rF5 (m0 m : gx_M) : Prop := (∀ c, c ≠ 86 → m c = m0 c) ∧ ∀ k, k ≠ 5 → k ≠ 7 → k ≠ 8 → m 86 k = m0 86 k
def rFd (m0 m : gx_M) : Prop := (∀ c, c ≠ 86 → (c < 104 ∨ 108 < c) → m c = m0 c) ∧ ∀ k, k ≠ 4 → k ≠ 5 → k ≠ 6 → k ≠ 7 → k ≠ 8 → k ≠ 32 → m 86 k = m0 86 k
theorem rF5_d {m0 m : gx_M} (h : rF5 m0 m) : rFd m0 m := ⟨fun c a _ => h.1 c a, fun k _ b _ d e _ => h.2 k b d e⟩
theorem rFd_t {m m1 m2 : gx_M} (h : rFd m m1) (h' : rFd m1 m2) : rFd m m2 := ⟨fun c a b => (h'.1 c a b).trans (h.1 c a b), fun k a b c d e f => (h'.2 k a b c d e f).trans (h.2 k a b c d e f)⟩
theorem rF5_t {m m1 m2 : gx_M} (h : rF5 m m1) (h' : rF5 m1 m2) : rF5 m m2 := ⟨fun c a => (h'.1 c a).trans (h.1 c a), fun k a b c => (h'.2 k a b c).trans (h.2 k a b c)⟩
theorem rF5_r (m : gx_M) : rF5 m m := ⟨fun _ _ => rfl, fun _ _ _ _ => rfl⟩
theorem rAc_5 {A : List hAct} {m0 m : gx_M} (h : rF5 m0 m) (hA : rAc A m0) : rAc A m := by
  unfold rAc
  rw [h.2 32 (by decide) (by decide) (by decide), h.1 104 (by decide), h.1 105 (by decide), h.1 106 (by decide), h.1 107 (by decide), h.1 108 (by decide)]
  exact hA
section RT
variable {xs : List Int32} {n : Nat} {Q : hQ} {T : Nat → Int} {L p : Nat} {m : gx_M}
theorem rT_he (h : rTx T L p m) : aHere m = tx T L p := by
  obtain ⟨t1, t2, t3⟩ := h
  unfold aHere
  rw [t1, t2]
  by_cases c : (L : Int) ≤ (p : Int)
  · rw [if_pos c, tx_no (by omega)]
  · rw [if_neg c, Int.toNat_natCast, t3 p (by omega), tx_eq (by omega)]
theorem rT_st (h : rTx T L p m) (hL : p < 1000) : rTx T L (p + 1) (gx_u m 86 5 (gx_w (m 86 5 + 1))) ∧ rF5 m (gx_u m 86 5 (gx_w (m 86 5 + 1))) := by
  obtain ⟨t1, t2, t3⟩ := h
  refine ⟨⟨?_, ?_, fun k hk => ?_⟩, fun c hc => gx_u_off hc, fun k h5 _ _ => gx_u_ne (by omega)⟩
  · rw [gx_u_self, t1, ew_u (by omega)]
  · rw [gx_u_ne (by decide)]
    exact t2
  · rw [gx_u_ne (by omega)]
    exact t3 k hk
theorem rT172 {a : Int} (ha : 0 ≤ a ∧ a ≤ 9) (hp : p ≤ 1000) (h : ∀ m', m' 86 7 = lfl a p → rF5 m m' → Q (some (.inl 0)) m') : hxn xs n yp_m172 0 [(0, .inr (.inl 86)), (1, .inl a), (2, .inl (p : Int))] [] m Q := by
  refine hx_dn (hr172_0 (h _ ?_ ⟨fun c hc => gx_u_off hc, fun k _ h7 _ => gx_u_ne (by omega)⟩))
  rw [gx_u_self, gx_w_id (x := (-1000) * a) (by omega) (by omega), gx_w_id (by omega) (by omega)]
  rfl
theorem r193 {most : Nat} (hm : most ≤ 5) (hL : L ≤ 240) (hp : p ≤ L) (hS : rTx T L p m) (h1 : ndg T L p most ≠ 0 → ∀ m', rTx T L (p + ndg T L p most) m' → m' 86 8 = lnum T p (ndg T L p most) → rF5 m m' → Q (some (.inl 1)) m') (h0 : ndg T L p most = 0 → ∀ m', m' 86 7 = lfl 1 p → rF5 m m' → Q (some (.inl 0)) m') : hxn xs n yp_m193 0 [(0, .inr (.inl 86)), (1, .inl (most : Int))] [] m Q := by
  have hl : ∀ e j : Nat, j + e = most → ∀ m', rTx T L (p + j) m' → m' 86 8 = lnum T p j → rF5 m m' → (∀ i, i < j → isDg (tx T L (p + i))) → hxn xs n yp_m193 10 [(0, .inr (.inl 86)), (1, .inl (most : Int)), (2, .inl (p : Int))] [] m' Q := by
    intro e
    induction e with
    | zero =>
      intro j hj m' hS' h8 hf hd
      have e : j = most := by omega
      have en := ndg_of (most := most) (by omega) hd (.inl e)
      have hw : gx_w ((p : Int) + (most : Int)) = ((p + j : Nat) : Int) := by
        rw [gx_w_id (by omega) (by omega)]
        omega
      have fin : (p : Int) < m' 86 5 → Q (some (.inl 1)) m' := fun c => by
        rw [hS'.1] at c
        exact h1 (by omega) m' (by rw [en]; exact hS') (by rw [en]; exact h8) hf
      have bad : m' 86 5 ≤ (p : Int) → hxn xs n yp_m172 0 [(0, .inr (.inl 86)), (1, .inl 1), (2, .inl (m' 86 5))] [] m' (fun r m' => hxn xs n yp_m193 76 [] (hrs r ++ []) m' Q) := fun c => by
        rw [hS'.1] at c ⊢
        have ej : j = 0 := by omega
        subst ej
        exact rT172 (p := p + 0) (by decide) (by omega) (fun m2 h7 f2 => hx_dn (hr193_76 (fun _ => h0 en m2 h7 (rF5_t hf f2)) (fun c => absurd rfl c)))
      refine hx_dn (hr193_10 (by rw [hS'.1]; omega) (fun _ _ c => fin c) (fun _ _ c => bad c) (fun _ c => ?_) (fun _ c => fin c) (fun _ c => bad c))
      rw [hw, hS'.1] at c
      exact absurd c (by omega)
    | succ e ih =>
      intro j hj m' hS' h8 hf hd
      have hw : gx_w ((p : Int) + (most : Int)) = ((p + most : Nat) : Int) := by
        rw [gx_w_id (by omega) (by omega)]
        omega
      have en : ¬ isDg (aHere m') → ndg T L p most = j := fun c => by
        rw [rT_he hS'] at c
        exact ndg_of (most := most) (by omega) hd (.inr c)
      refine hx_dn (hr193_10 (by rw [hS'.1]; omega) (fun _ c => ?_) (fun _ c => ?_) (fun a _ => ?_) (fun a c => ?_) (fun a c => ?_))
      · rw [hw, hS'.1] at c
        exact absurd c (by omega)
      · rw [hw, hS'.1] at c
        exact absurd c (by omega)
      · have a' := a
        rw [rT_he hS'] at a'
        have hlt := isDg_lt a'
        have hd2 : ∀ i, i < j + 1 → isDg (tx T L (p + i)) := fun i hi => by
          by_cases e : i = j
          · rw [e]
            exact a'
          · exact hd i (by omega)
        have b1 := lnum_bd (T := T) (L := L) (p := p) j hd
        have b2 := lpw_le (j := j) (by omega)
        have c2 : 48 ≤ T (p + j) ∧ T (p + j) ≤ 57 := by
          rw [tx_eq hlt] at a'
          exact a'
        have ev : gx_w (gx_w (gx_w (10 * m' 86 8) + aHere m') - 48) = lnum T p (j + 1) := by
          rw [h8, rT_he hS', tx_eq hlt, gx_w_id (x := 10 * lnum T p j) (by omega) (by omega), gx_w_id (x := 10 * lnum T p j + T (p + j)) (by omega) (by omega), gx_w_id (by omega) (by omega)]
          rfl
        rw [ev, hS'.1]
        refine ih (j + 1) (by omega) _ ⟨?_, ?_, fun k hk => ?_⟩ ?_ ⟨fun c hc => ?_, fun k k5 k7 k8 => ?_⟩ hd2
        · rw [gx_u_self]
          omega
        · rw [gx_u_ne (by decide), gx_u_ne (by decide)]
          exact hS'.2.1
        · rw [gx_u_ne (by omega), gx_u_ne (by omega)]
          exact hS'.2.2 k hk
        · rw [gx_u_ne (by decide), gx_u_self]
        · rw [gx_u_off hc, gx_u_off hc]
          exact hf.1 c hc
        · rw [gx_u_ne (by omega), gx_u_ne (by omega)]
          exact hf.2 k k5 k7 k8
      · have en := en a
        rw [hS'.1] at c
        exact h1 (by omega) m' (by rw [en]; exact hS') (by rw [en]; exact h8) hf
      · have en := en a
        rw [hS'.1] at c ⊢
        have ej : j = 0 := by omega
        subst ej
        exact rT172 (p := p + 0) (by decide) (by omega) (fun m2 h7 f2 => hx_dn (hr193_76 (fun _ => h0 en m2 h7 (rF5_t hf f2)) (fun c => absurd rfl c)))
  refine hx_dn (hr193_0 ?_)
  rw [hS.1]
  refine hl most 0 (Nat.zero_add _) _ ⟨?_, ?_, fun k hk => ?_⟩ ?_ ⟨fun c hc => gx_u_off hc, fun k _ _ k8 => gx_u_ne (by omega)⟩ (fun i hi => absurd hi (by omega))
  · rw [gx_u_ne (by decide)]
    exact hS.1
  · rw [gx_u_ne (by decide)]
    exact hS.2.1
  · rw [gx_u_ne (by omega)]
    exact hS.2.2 k hk
  · rw [gx_u_self]
    rfl
/-! an act -/
def rPC (T : Nat → Int) (L : Nat) (A : List hAct) (m0 : gx_M) (r : hRd) (v : Int) (m : gx_M) : Prop := rFd m0 m ∧ match r with
  | (some (p', a), _) => v = 1 ∧ rTx T L p' m ∧ rAc (A ++ [a]) m
  | (none, f) => v = 0 ∧ m 86 7 = f
theorem rAc_app {A : List hAct} {a : hAct} {M : gx_M} (hA : ∀ i b, A[i]? = some b → M 104 i = (b.1 : Int) ∧ M 105 i = (b.2.1 : Int) ∧ M 106 i = b.2.2.1 ∧ M 107 i = (b.2.2.2.1 : Int) ∧ M 108 i = (b.2.2.2.2 : Int)) (h5 : M 86 32 = (A.length : Int) + 1) (e : M 104 A.length = (a.1 : Int) ∧ M 105 A.length = (a.2.1 : Int) ∧ M 106 A.length = a.2.2.1 ∧ M 107 A.length = (a.2.2.2.1 : Int) ∧ M 108 A.length = (a.2.2.2.2 : Int)) : rAc (A ++ [a]) M := by
  refine ⟨by rw [List.length_append, List.length_singleton, h5]; rfl, fun i b hb => ?_⟩
  rcases lg_app hb with hb | ⟨rfl, rfl⟩
  · exact hA i b hb
  · exact e
variable {A : List hAct} {m0 : gx_M} {y f t : Nat} {sg : Int}
/-- one write at the row's end -/
theorem rw_end {c : Nat} {v : Int} (hc : 104 ≤ c ∧ c ≤ 108) (hS : rTx T L p m) (hA : rAc A m) (hf : rFd m0 m) : rTx T L p (gx_u m c A.length v) ∧ rAc A (gx_u m c A.length v) ∧ rFd m0 (gx_u m c A.length v) := by
  refine ⟨?_, ⟨?_, fun i a ha => ?_⟩, fun c' h1 h3 => ?_, fun k a1 a2 a3 a4 a5 a6 => ?_⟩
  · unfold rTx
    rw [gx_u_off (by omega), gx_u_off (by omega)]
    exact hS
  · rw [gx_u_ne (by omega)]
    exact hA.1
  · have hlt := lg_lt ha
    rw [gx_u_ne (by omega), gx_u_ne (by omega), gx_u_ne (by omega), gx_u_ne (by omega), gx_u_ne (by omega)]
    exact hA.2 i a ha
  · rw [gx_u_off (by omega)]
    exact hf.1 c' h1 h3
  · rw [gx_u_ne (by omega)]
    exact hf.2 k a1 a2 a3 a4 a5 a6
theorem rA_end {a : hAct} {M : gx_M} {v : Int} (hv : v = (a.2.2.2.2 : Int)) (h16 : A.length ≤ 16) (hS : rTx T L p M) (hA : rAc A M) (hf : rFd m0 M) (e : M 104 A.length = (a.1 : Int) ∧ M 105 A.length = (a.2.1 : Int) ∧ M 106 A.length = a.2.2.1 ∧ M 107 A.length = (a.2.2.2.1 : Int)) : rFd m0 (gx_u (gx_u M 108 A.length v) 86 32 (gx_w (M 86 32 + 1))) ∧ rTx T L p (gx_u (gx_u M 108 A.length v) 86 32 (gx_w (M 86 32 + 1))) ∧ rAc (A ++ [a]) (gx_u (gx_u M 108 A.length v) 86 32 (gx_w (M 86 32 + 1))) := by
  obtain ⟨w1, w2, w3⟩ := rw_end (c := 108) (v := v) (by decide) hS hA hf
  refine ⟨⟨fun c a1 a2 => ?_, fun k a1 a2 a3 a4 a5 a6 => ?_⟩, ⟨?_, ?_, fun k hk => ?_⟩, rAc_app (fun i b hb => ?_) ?_ ?_⟩
  · rw [gx_u_off a1]
    exact w3.1 c a1 a2
  · rw [gx_u_ne (by omega)]
    exact w3.2 k a1 a2 a3 a4 a5 a6
  · rw [gx_u_ne (by decide)]
    exact w1.1
  · rw [gx_u_ne (by decide)]
    exact w1.2.1
  · rw [gx_u_ne (by omega)]
    exact w1.2.2 k hk
  · rw [gx_u_off (c := 86) (by decide), gx_u_off (c := 86) (by decide), gx_u_off (c := 86) (by decide), gx_u_off (c := 86) (by decide), gx_u_off (c := 86) (by decide)]
    exact w2.2 i b hb
  · rw [gx_u_self, hA.1, ew_u (by omega)]
    rfl
  · rw [gx_u_off (c := 86) (by decide), gx_u_off (c := 86) (by decide), gx_u_off (c := 86) (by decide), gx_u_off (c := 86) (by decide), gx_u_off (c := 86) (by decide), gx_u_ne (by omega), gx_u_ne (by omega), gx_u_ne (by omega), gx_u_ne (by omega), gx_u_self]
    exact ⟨e.1, e.2.1, e.2.2.1, e.2.2.2, hv⟩
theorem r192_207 {b : Int} (hb : b = tx T L p) (hpn : 97 ≤ tx T L p ∧ tx T L p ≤ 104) (hL : L ≤ 240) (hp : p < L) (hS : rTx T L p m) (hA : rAc A m) (h16 : A.length < 16) (hf : rFd m0 m) (e : m 104 A.length = (y : Int) ∧ m 105 A.length = (f : Int) ∧ m 106 A.length = sg) (hQ : ∀ v m', rPC T L A m0 (dS3 T L p y f sg) v m' → Q (some (.inl v)) m') : hxn xs n yp_m192 207 [(0, .inr (.inl 86)), (2, .inl sg)] [.inl b, .inl (A.length : Int), .inr (.inl 107)] m Q := by
  subst hb
  have hi := hA.1
  have hw97 : gx_w (tx T L p - 97) = tx T L p - 97 := gx_w_id (by omega) (by omega)
  obtain ⟨w1, w2, w3⟩ := rw_end (c := 107) (v := tx T L p - 97) (by decide) hS hA hf
  have er : (gx_u m 107 A.length (tx T L p - 97)) 86 5 = m 86 5 := gx_u_ne (by omega)
  obtain ⟨v1, v2⟩ := rT_st w1 (by omega)
  rw [er] at v1 v2
  have vA := rAc_5 v2 w2
  have vF := rFd_t w3 (rF5_d v2)
  obtain ⟨u1, u2, u3⟩ := rw_end (c := 108) (v := 0) (by decide) v1 vA vF
  have hR : tx T L p - 97 ≠ (f : Int) → dS3 T L p y f sg = dS4 T L (p + 1) y f sg (tx T L p - 97).toNat := fun c => by
    unfold dS3
    rw [if_pos hpn, if_neg c]
  have eM : ∀ M : gx_M, (∀ c, c ≠ 86 → c ≠ 108 → M c = (gx_u m 107 A.length (tx T L p - 97)) c) → M 104 A.length = (y : Int) ∧ M 105 A.length = (f : Int) ∧ M 106 A.length = sg ∧ M 107 A.length = ((tx T L p - 97).toNat : Int) := fun M hM => by
    rw [hM 104 (by decide) (by decide), hM 105 (by decide) (by decide), hM 106 (by decide) (by decide), hM 107 (by decide) (by decide), gx_u_ne (by omega), gx_u_ne (by omega), gx_u_ne (by omega), gx_u_self]
    exact ⟨e.1, e.2.1, e.2.2, by omega⟩
  have pri : (sg = 62 ∨ sg = 93) → tx T L p - 97 ≠ (f : Int) → hxn xs n yp_m193 0 [(0, .inr (.inl 86)), (1, .inl 4)] [] (gx_u (gx_u (gx_u m 107 A.length (tx T L p - 97)) 86 5 (gx_w (m 86 5 + 1))) 108 A.length 0) (fun r m' => hxn xs n yp_m192 280 [(0, .inr (.inl 86))] (hrs r ++ []) m' Q) := fun hs hne => by
    rw [hR hne] at hQ
    refine r193 (p := p + 1) (most := 4) (by decide) hL hp u1 (fun hn m1 h1 h8 g1 => ?_) (fun hn m1 h7 g1 => ?_)
    · have b2 := (lnum_bd (T := T) (L := L) (p := p + 1) _ (ndg_dg (most := 4))).1
      have hA1 := rAc_5 g1 u2
      refine hx_dn (hr192_280 (fun _ => ?_) (fun c => absurd c (by decide)))
      have e1 := eM m1 (fun c c1 c2 => by rw [g1.1 c c1, gx_u_off c2, gx_u_off c1])
      obtain ⟨q1, q2, q3⟩ := rA_end (a := (y, f, sg, (tx T L p - 97).toNat, (lnum T (p + 1) (ndg T L (p + 1) 4)).toNat)) (M := m1) (v := m1 86 8) (by rw [h8]; dsimp only; omega) (by omega) h1 hA1 (rFd_t u3 (rF5_d g1)) e1
      rw [hA1.1, Int.toNat_natCast]
      rw [hA1.1] at q1 q2 q3
      refine hQ 1 _ ⟨q1, ?_⟩
      unfold dS4
      rw [if_pos hs, if_neg hn]
      exact ⟨rfl, q2, q3⟩
    · refine hx_dn (hr192_280 (fun c => absurd rfl c) (fun _ => hQ 0 m1 ⟨rFd_t u3 (rF5_d g1), ?_⟩))
      unfold dS4
      rw [if_pos hs, if_pos hn]
      exact ⟨rfl, h7⟩
  refine hx_dn (hr192_207 (fun a b => ?_) (fun a b c => ?_) (fun a _ b => ?_) (fun a => ?_))
  · rw [hi, Int.toNat_natCast, gx_u_self, e.2.1, hw97] at a
    rw [hi, Int.toNat_natCast, hw97]
    exact pri (.inl b) a
  · rw [hi, Int.toNat_natCast, gx_u_self, e.2.1, hw97] at a
    rw [hR a] at hQ
    rw [hi, Int.toNat_natCast, hw97]
    have e1 := eM (gx_u (gx_u m 107 A.length (tx T L p - 97)) 86 5 (gx_w (m 86 5 + 1))) (fun c c1 c2 => by rw [gx_u_off c1])
    obtain ⟨q1, q2, q3⟩ := rA_end (a := (y, f, sg, (tx T L p - 97).toNat, 0)) (v := 0) rfl (by omega) v1 vA vF e1
    rw [vA.1] at q1 q2 q3
    refine hQ 1 _ ⟨q1, ?_⟩
    unfold dS4
    rw [if_neg (by omega)]
    exact ⟨rfl, q2, q3⟩
  · rw [hi, Int.toNat_natCast, gx_u_self, e.2.1, hw97] at a
    rw [hi, Int.toNat_natCast, hw97]
    exact pri (.inr b) a
  · rw [hi, Int.toNat_natCast, gx_u_self, e.2.1, hw97] at a
    rw [Int.toNat_natCast, hw97, hS.1]
    refine rT172 (by decide) (by omega) (fun m1 h7 g1 => hx_dn (hr192_242 (hQ 0 m1 ⟨rFd_t w3 (rF5_d g1), ?_⟩)))
    unfold dS3
    rw [if_pos hpn, if_pos a]
    exact ⟨rfl, h7⟩
theorem r192_123 {b : Int} (hb : b = tx T L p) (hL : L ≤ 240) (hp : p ≤ L) (hS : rTx T L p m) (hA : rAc A m) (h16 : A.length < 16) (hf : rFd m0 m) (e : m 104 A.length = (y : Int) ∧ m 105 A.length = (f : Int)) (hQ : ∀ v m', rPC T L A m0 (dS2 T L p y f) v m' → Q (some (.inl v)) m') : hxn xs n yp_m192 123 [(0, .inr (.inl 86))] [.inl b] m Q := by
  subst hb
  have hi := hA.1
  obtain ⟨w1, w2, w3⟩ := rw_end (c := 106) (v := tx T L p) (by decide) hS hA hf
  have er : (gx_u m 106 A.length (tx T L p)) 86 5 = m 86 5 := gx_u_ne (by omega)
  obtain ⟨v1, v2⟩ := rT_st w1 (by omega)
  rw [er] at v1 v2
  have vA := rAc_5 v2 w2
  have vF := rFd_t w3 (rF5_d v2)
  have e1 : (gx_u (gx_u m 106 A.length (tx T L p)) 86 5 (gx_w (m 86 5 + 1))) 104 A.length = (y : Int) ∧ (gx_u (gx_u m 106 A.length (tx T L p)) 86 5 (gx_w (m 86 5 + 1))) 105 A.length = (f : Int) ∧ (gx_u (gx_u m 106 A.length (tx T L p)) 86 5 (gx_w (m 86 5 + 1))) 106 A.length = tx T L p := by
    rw [gx_u_ne (by omega), gx_u_ne (by omega), gx_u_ne (by omega), gx_u_ne (by omega), gx_u_ne (by omega), gx_u_self]
    exact ⟨e.1, e.2, rfl⟩
  have yes : (tx T L p = 62 ∨ tx T L p = 93 ∨ tx T L p = 91 ∨ tx T L p = 61) → isPn (aHere (gx_u (gx_u m 106 (m 86 32).toNat (tx T L p)) 86 5 (gx_w (m 86 5 + 1)))) → hxn xs n yp_m170 0 [(0, .inr (.inl 86))] [] (gx_u (gx_u m 106 (m 86 32).toNat (tx T L p)) 86 5 (gx_w (m 86 5 + 1))) (fun r m' => hxn xs n yp_m192 207 [(0, .inr (.inl 86)), (2, .inl (tx T L p))] (hrs r ++ [.inl (m 86 32), .inr (.inl 107)]) m' Q) := fun hs hpn => by
    rw [hi, Int.toNat_natCast] at hpn ⊢
    rw [rT_he v1] at hpn
    refine hs170 ?_
    refine r192_207 (rT_he v1) hpn hL (tx_lt (T := T) (by unfold isPn at hpn; omega)) v1 vA h16 vF e1 (fun v m' h => hQ v m' ?_)
    unfold dS2
    rw [if_pos hs]
    exact h
  have no : (tx T L p = 62 ∨ tx T L p = 93 ∨ tx T L p = 91 ∨ tx T L p = 61) → ¬ isPn (aHere (gx_u (gx_u m 106 (m 86 32).toNat (tx T L p)) 86 5 (gx_w (m 86 5 + 1)))) → hxn xs n yp_m172 0 [(0, .inr (.inl 86)), (1, .inl 1), (2, .inl (gx_w (m 86 5 + 1)))] [] (gx_u (gx_u m 106 (m 86 32).toNat (tx T L p)) 86 5 (gx_w (m 86 5 + 1))) (fun r m' => hxn xs n yp_m192 194 [] (hrs r ++ []) m' Q) := fun hs hpn => by
    rw [hi, Int.toNat_natCast] at hpn ⊢
    rw [rT_he v1] at hpn
    rw [hS.1, ew_u (by omega)]
    rw [hS.1] at vF
    refine rT172 (by decide) (by omega) (fun m1 h7 g1 => hx_dn (hr192_194 (hQ 0 m1 ⟨rFd_t ?_ (rF5_d g1), ?_⟩)))
    · rw [ew_u (by omega)] at vF
      exact vF
    · unfold dS2 dS3
      rw [if_pos hs, if_neg (show ¬ (97 ≤ tx T L (p + 1) ∧ tx T L (p + 1) ≤ 104) from hpn)]
      exact ⟨rfl, h7⟩
  refine hx_dn (hr192_123 (fun a => yes (.inl a)) (fun a => no (.inl a)) (fun _ a => yes (.inr (.inl a))) (fun _ a => no (.inr (.inl a))) (fun _ _ a => yes (.inr (.inr (.inl a)))) (fun _ _ a => no (.inr (.inr (.inl a)))) (fun _ _ _ a => yes (.inr (.inr (.inr a)))) (fun _ _ _ a => no (.inr (.inr (.inr a)))) (fun a b c d => ?_))
  rw [hS.1]
  refine rT172 (by decide) (by omega) (fun m1 h7 g1 => hx_dn (hr192_157 (hQ 0 m1 ⟨rFd_t hf (rF5_d g1), ?_⟩)))
  unfold dS2
  rw [if_neg (by omega)]
  exact ⟨rfl, h7⟩
theorem r192_0 (hL : L ≤ 240) (hp : p ≤ L) (hS : rTx T L p m) (hA : rAc A m) (h16 : A.length ≤ 16) (hf : rFd m0 m) (hQ : ∀ v m', rPC T L A m0 (dRd T L p A.length) v m' → Q (some (.inl v)) m') : hxn xs n yp_m192 0 [(0, .inr (.inl 86))] [] m Q := by
  have hi := hA.1
  have hd0 : isDg (aHere m) → ndg T L p 2 ≠ 0 := fun hd => by
    rw [rT_he hS] at hd
    have hd : 48 ≤ tx T L p ∧ tx T L p ≤ 57 := hd
    unfold ndg
    rw [if_pos hd]
    omega
  refine hx_dn (hr192_0 (fun a b => ?_) (fun a b => ?_) (fun a => ?_))
  · have h0 := hd0 a
    rw [hi] at b
    have hR : dRd T L p A.length = dS1 T L p (p + ndg T L p 2) (lnum T p (ndg T L p 2)) := by
      unfold dRd
      rw [if_neg h0, if_neg (by omega)]
    rw [hR] at hQ
    obtain ⟨b2, -⟩ := lnum_bd (T := T) (L := L) (p := p) _ (ndg_dg (most := 2))
    have hpe := ndg_end (T := T) 2 p hp
    rw [hS.1]
    refine r193 (most := 2) (by decide) hL hp hS (fun _ m1 h1 h8 g1 => ?_) (fun c => absurd c h0)
    have hA1 := rAc_5 g1 hA
    have hf1 := rFd_t hf (rF5_d g1)
    obtain ⟨w1, w2, w3⟩ := rw_end (c := 104) (v := lnum T p (ndg T L p 2)) (by decide) h1 hA1 hf1
    refine hx_dn (hr192_46 (fun c d => ?_) (fun c d => ?_) (fun c => ?_))
    · rw [h8] at c
      rw [hA1.1, Int.toNat_natCast, h8] at d ⊢
      rw [rT_he w1] at d
      have d' : 97 ≤ tx T L (p + ndg T L p 2) ∧ tx T L (p + ndg T L p 2) ≤ 104 := d
      have hlt : p + ndg T L p 2 < L := tx_lt (T := T) (by omega)
      refine hs170 ?_
      rw [rT_he w1]
      refine hx_dn (hr192_105 ?_)
      rw [Int.toNat_natCast, gx_w_id (x := tx T L (p + ndg T L p 2) - 97) (by omega) (by omega)]
      obtain ⟨u1, u2, u3⟩ := rw_end (c := 105) (v := tx T L (p + ndg T L p 2) - 97) (by decide) w1 w2 w3
      obtain ⟨t1, t2⟩ := rT_st u1 (by omega)
      rw [gx_u_ne (c := 105) (by omega)] at t1 t2
      refine hs170 ?_
      refine r192_123 (y := (lnum T p (ndg T L p 2)).toNat) (f := (tx T L (p + ndg T L p 2) - 97).toNat) (rT_he t1) hL hlt t1 (rAc_5 t2 u2) (by omega) (rFd_t u3 (rF5_d t2)) ?_ (fun v m' h => hQ v m' ?_)
      · rw [gx_u_ne (by omega), gx_u_ne (by omega), gx_u_self, gx_u_ne (by omega), gx_u_self]
        exact ⟨by omega, by omega⟩
      · unfold dS1
        rw [if_neg (by omega), if_pos d']
        exact h
    · rw [h8] at c
      rw [hA1.1, Int.toNat_natCast, h8] at d ⊢
      rw [rT_he w1] at d
      rw [h1.1]
      refine rT172 (by decide) (by omega) (fun m2 h7 g2 => hx_dn (hr192_92 (hQ 0 m2 ⟨rFd_t w3 (rF5_d g2), ?_⟩)))
      unfold dS1
      rw [if_neg (by omega), if_neg (show ¬ (97 ≤ tx T L (p + ndg T L p 2) ∧ tx T L (p + ndg T L p 2) ≤ 104) from d)]
      exact ⟨rfl, h7⟩
    · rw [h8] at c
      refine rT172 (by decide) (by omega) (fun m2 h7 g2 => hx_dn (hr192_62 (hQ 0 m2 ⟨rFd_t hf1 (rF5_d g2), ?_⟩)))
      unfold dS1
      rw [if_pos c]
      exact ⟨rfl, h7⟩
  · have h0 := hd0 a
    rw [hi] at b
    rw [hS.1]
    refine rT172 (by decide) (by omega) (fun m2 h7 g2 => hx_dn (hr192_40 (hQ 0 m2 ⟨rFd_t hf (rF5_d g2), ?_⟩)))
    unfold dRd
    rw [if_neg h0, if_pos (by omega)]
    exact ⟨rfl, h7⟩
  · rw [rT_he hS] at a
    rw [hS.1]
    refine rT172 (by decide) (by omega) (fun m2 h7 g2 => hx_dn (hr192_21 (hQ 0 m2 ⟨rFd_t hf (rF5_d g2), ?_⟩)))
    unfold dRd
    rw [if_pos (ndg_of (j := 0) (by omega) (fun i hi => absurd hi (by omega)) (.inr a))]
    exact ⟨rfl, h7⟩
/-- the reference reads deals -/
def rPA (m0 : gx_M) (r : List hAct ⊕ Int) (v : Int) (m : gx_M) : Prop := rFd m0 m ∧ m 86 4 = 0 ∧ match r with
  | .inl A => v = 1 ∧ rAc A m
  | .inr f => v = 0 ∧ m 86 7 = f
theorem rPA_0 {M : gx_M} (hf : rFd m0 M) : rFd m0 (gx_u M 86 4 0) ∧ (gx_u M 86 4 0) 86 4 = 0 ∧ (∀ A, rAc A M → rAc A (gx_u M 86 4 0)) ∧ (gx_u M 86 4 0) 86 7 = M 86 7 := by
  refine ⟨⟨fun c a b => by rw [gx_u_off a]; exact hf.1 c a b, fun k a1 a2 a3 a4 a5 a6 => by rw [gx_u_ne (by omega)]; exact hf.2 k a1 a2 a3 a4 a5 a6⟩, gx_u_self, fun A hA => ?_, gx_u_ne (by decide)⟩
  unfold rAc
  rw [gx_u_ne (by decide), gx_u_off (by decide), gx_u_off (by decide), gx_u_off (by decide), gx_u_off (by decide), gx_u_off (by decide)]
  exact hA
/-- from behind an act on: d more acts may come -/
theorem r191l (hL : L ≤ 240) : ∀ d : Nat, ∀ (A : List hAct) (p : Nat) (m : gx_M) (r : hRd) (v : Int), A.length + d = 16 → p ≤ L → r = dRd T L p A.length → rPC T L A m0 r v m → (∀ w m', rPA m0 (dAll T L (d + 1) p A) w m' → Q (some (.inl w)) m') → (v = 0 ∨ v = 1) ∧ hxn xs n yp_m191 20 [(0, .inr (.inl 86)), (2, .inl v)] [] m Q := by
  intro d
  induction d with
  | zero =>
    intro A p m r v hd hp hr hP hQ
    unfold dAll at hQ
    rw [← hr] at hQ
    unfold rPC at hP
    obtain ⟨o, f⟩ := r
    cases o with
    | none =>
      obtain ⟨hf, rfl, h7⟩ := hP
      obtain ⟨z1, z2, z3, z4⟩ := rPA_0 hf
      exact ⟨.inl rfl, hx_dn (hr191_20 (fun _ => hQ 0 _ ⟨z1, z2, rfl, z4.trans h7⟩) (fun c => absurd rfl c) (fun c => absurd rfl c))⟩
    | some pa =>
      obtain ⟨p', a⟩ := pa
      obtain ⟨-, -, -, h17⟩ := dRd_ok hp hr.symm
      omega
  | succ d ih =>
    intro A p m r v hd hp hr hP hQ
    unfold dAll at hQ
    rw [← hr] at hQ
    unfold rPC at hP
    obtain ⟨o, f⟩ := r
    cases o with
    | none =>
      obtain ⟨hf, rfl, h7⟩ := hP
      obtain ⟨z1, z2, z3, z4⟩ := rPA_0 hf
      exact ⟨.inl rfl, hx_dn (hr191_20 (fun _ => hQ 0 _ ⟨z1, z2, rfl, z4.trans h7⟩) (fun c => absurd rfl c) (fun c => absurd rfl c))⟩
    | some pa =>
      obtain ⟨p', a⟩ := pa
      obtain ⟨-, -, hpL, h17⟩ := dRd_ok hp hr.symm
      obtain ⟨hf, rfl, hS1, hA1⟩ := hP
      dsimp only at hQ
      obtain ⟨z1, z2, z3, z4⟩ := rPA_0 hf
      refine ⟨.inr rfl, hx_dn (hr191_20 (fun c => absurd c (by decide)) (fun _ c => ?_) (fun _ c => ?_))⟩
      · rw [hS1.1, hS1.2.1] at c
        rw [if_pos (by omega)] at hQ
        exact hQ 1 _ ⟨z1, z2, rfl, z3 _ hA1⟩
      · rw [hS1.1, hS1.2.1] at c
        rw [if_neg (by omega)] at hQ
        refine hx_dn (hr189_0 (fun e => ?_) (fun e => ?_))
        · rw [rT_he hS1] at e
          rw [if_pos e] at hQ
          obtain ⟨t1, t2⟩ := rT_st hS1 (by omega)
          refine hx_dn (hr191_41 (s0 := 1) (fun c => absurd c (by decide)) (fun _ => ?_))
          refine r192_0 (m0 := m0) hL (by omega) t1 (rAc_5 t2 hA1) (by rw [List.length_append, List.length_singleton]; omega) (rFd_t hf (rF5_d t2)) (fun w m2 h2 => ?_)
          obtain ⟨q1, q2⟩ := ih (A ++ [a]) (p' + 1) m2 _ w (by rw [List.length_append, List.length_singleton]; omega) (by omega) rfl h2 hQ
          rcases q1 with rfl | rfl
          · exact hx_dn (hr191_48 (s0 := 0) (fun _ => q2) (fun c => absurd rfl c))
          · exact hx_dn (hr191_48 (s0 := 1) (fun c => absurd c (by decide)) (fun _ => q2))
        · rw [rT_he hS1] at e
          rw [if_neg e] at hQ
          rw [hS1.1]
          refine rT172 (by decide) (by omega) (fun m2 h7 g2 => hx_dn (hr189_17 ?_))
          obtain ⟨z1, z2, z3, z4⟩ := rPA_0 (rFd_t hf (rF5_d g2))
          refine hx_dn (hr191_41 (s0 := 0) (fun _ => ?_) (fun c => absurd rfl c))
          exact hx_dn (hr191_20 (fun _ => hQ 0 _ ⟨z1, z2, rfl, z4.trans h7⟩) (fun c => absurd rfl c) (fun c => absurd rfl c))
theorem r191 (hL : L ≤ 240) (hT : ∀ k, k < L → gx_and (m 90 k) 255 = T k) (hQ : ∀ v m', rPA m (dAll T L 17 0 []) v m' → Q (some (.inl v)) m') : hxn xs n yp_m191 0 [(0, .inr (.inl 86)), (1, .inl (L : Int))] [] m Q := by
  refine hx_dn (hr191_0 ?_)
  refine r192_0 (T := T) (L := L) (p := 0) (A := []) (m0 := m) hL (Nat.zero_le _) ⟨?_, ?_, fun k hk => ?_⟩ ⟨?_, fun i a ha => by cases ha⟩ (Nat.zero_le _) ⟨fun c a _ => ?_, fun k a1 a2 a3 a4 a5 a6 => ?_⟩ (fun v m1 h1 => ?_)
  · rw [gx_u_ne (by decide), gx_u_ne (by decide), gx_u_self]
    rfl
  · rw [gx_u_ne (by decide), gx_u_self]
  · rw [gx_u_ne (by omega), gx_u_ne (by omega), gx_u_ne (by omega)]
    exact hT k hk
  · rw [gx_u_self]
    rfl
  · rw [gx_u_off a, gx_u_off a, gx_u_off a]
  · rw [gx_u_ne (by omega), gx_u_ne (by omega), gx_u_ne (by omega)]
  · exact hx_dn (hr191_19 (r191l hL 16 [] 0 m1 _ v rfl (Nat.zero_le _) rfl h1 hQ).2)
end RT
end
section
/-! a place of the state put anew -/
def su (s : Nat → Int) (k : Nat) (v : Int) : Nat → Int := fun j => if j = k then v else s j
theorem su_self {s : Nat → Int} {k : Nat} {v : Int} : su s k v k = v := if_pos rfl
theorem su_ne {s : Nat → Int} {k j : Nat} {v : Int} (h : j ≠ k) : su s k v j = s j := if_neg h
theorem gx_su {m : gx_M} {c k : Nat} {v : Int} : gx_u m c k v c = su (m c) k v := by
  funext j
  unfold su
  by_cases h : j = k
  · subst h
    rw [if_pos rfl, gx_u_self]
  · rw [if_neg h, gx_u_ne (by omega)]
section SU
variable {b : Nat} {s : Nat → Int} {m : gx_M} {v : Int}
theorem sU_coin {P : Nat} (hP : P < 8) (h : sBk b s m) : sBk b (su s (1120 + P) v) (gx_u m (b + 1) P v) := by
  obtain ⟨⟨a1, a2, a3, a4, a5⟩, h2, h3, h4⟩ := h
  refine ⟨⟨?_, ?_, ?_, ?_, ?_⟩, fun p hp => ?_, fun y hy => ⟨⟨?_, ?_, ?_, ?_, ?_⟩, ?_, fun ht => ?_, ?_, ?_, ?_⟩, fun k hk => ?_⟩
  · rw [gx_u_ne (by omega), su_ne (by omega)]
    exact a1
  · rw [gx_u_ne (by omega), a2]
    exact congrArg (fun x : Nat => (x : Int)) (hmask_ext 40 (fun j hj => by rw [su_ne (by omega)]))
  · rw [gx_u_ne (by omega), a3]
    exact congrArg (fun x : Nat => (x : Int)) (hmask_ext 40 (fun j hj => by rw [su_ne (by omega)]))
  · rw [gx_u_ne (by omega), su_ne (by omega)]
    exact a4
  · rw [gx_u_ne (by omega), su_ne (by omega)]
    exact a5
  · by_cases e : p = P
    · subst e
      rw [gx_u_self, su_self]
    · rw [gx_u_ne (by omega), su_ne (by omega)]
      exact h2 p hp
  · rw [gx_u_ne (by omega), su_ne (by omega)]
    exact (h3 y hy).1.1
  · rw [gx_u_ne (by omega), su_ne (by omega)]
    exact (h3 y hy).1.2.1
  · rw [gx_u_ne (by omega), su_ne (by omega)]
    exact (h3 y hy).1.2.2.1
  · rw [gx_u_ne (by omega), su_ne (by omega)]
    exact (h3 y hy).1.2.2.2.1
  · rw [gx_u_ne (by omega), su_ne (by omega)]
    exact (h3 y hy).1.2.2.2.2
  · rw [gx_u_ne (by omega), su_ne (by omega)]
    exact (h3 y hy).2.1
  · rw [gx_u_ne (by omega), su_ne (by omega)]
    exact (h3 y hy).2.2.1 (by rw [su_ne (by omega)] at ht; exact ht)
  · rw [gx_u_ne (by omega), su_ne (by omega)]
    exact (h3 y hy).2.2.2.1
  · rw [gx_u_ne (by omega), su_ne (by omega)]
    exact (h3 y hy).2.2.2.2.1
  · rw [gx_u_ne (by omega), su_ne (by omega)]
    exact (h3 y hy).2.2.2.2.2
  · rw [gx_u_ne (by omega), su_ne (by omega)]
    exact h4 k hk
theorem sU_date {P : Nat} (hP : P < 40) (h : sBk b s m) : sBk b (su s P v) (gx_u m (b + 2) P v) := by
  obtain ⟨⟨a1, a2, a3, a4, a5⟩, h2, h3, h4⟩ := h
  refine ⟨⟨?_, ?_, ?_, ?_, ?_⟩, fun p hp => ?_, fun y hy => ⟨⟨?_, ?_, ?_, ?_, ?_⟩, ?_, fun ht => ?_, ?_, ?_, ?_⟩, fun k hk => ?_⟩
  · rw [gx_u_ne (by omega), su_ne (by omega)]
    exact a1
  · rw [gx_u_ne (by omega), a2]
    exact congrArg (fun x : Nat => (x : Int)) (hmask_ext 40 (fun j hj => by rw [su_ne (by omega)]))
  · rw [gx_u_ne (by omega), a3]
    exact congrArg (fun x : Nat => (x : Int)) (hmask_ext 40 (fun j hj => by rw [su_ne (by omega)]))
  · rw [gx_u_ne (by omega), su_ne (by omega)]
    exact a4
  · rw [gx_u_ne (by omega), su_ne (by omega)]
    exact a5
  · rw [gx_u_ne (by omega), su_ne (by omega)]
    exact h2 p hp
  · by_cases e : y = P
    · subst e
      rw [gx_u_self, su_self]
    · rw [gx_u_ne (by omega), su_ne (by omega)]
      exact (h3 y hy).1.1
  · rw [gx_u_ne (by omega), su_ne (by omega)]
    exact (h3 y hy).1.2.1
  · rw [gx_u_ne (by omega), su_ne (by omega)]
    exact (h3 y hy).1.2.2.1
  · rw [gx_u_ne (by omega), su_ne (by omega)]
    exact (h3 y hy).1.2.2.2.1
  · rw [gx_u_ne (by omega), su_ne (by omega)]
    exact (h3 y hy).1.2.2.2.2
  · rw [gx_u_ne (by omega), su_ne (by omega)]
    exact (h3 y hy).2.1
  · rw [gx_u_ne (by omega), su_ne (by omega)]
    exact (h3 y hy).2.2.1 (by rw [su_ne (by omega)] at ht; exact ht)
  · rw [gx_u_ne (by omega), su_ne (by omega)]
    exact (h3 y hy).2.2.2.1
  · rw [gx_u_ne (by omega), su_ne (by omega)]
    exact (h3 y hy).2.2.2.2.1
  · rw [gx_u_ne (by omega), su_ne (by omega)]
    exact (h3 y hy).2.2.2.2.2
  · rw [gx_u_ne (by omega), su_ne (by omega)]
    exact h4 k hk
theorem sU_livr {P : Nat} (hP : P < 40) (h : sBk b s m) : sBk b (su s (40 + P) v) (gx_u m (b + 3) P v) := by
  obtain ⟨⟨a1, a2, a3, a4, a5⟩, h2, h3, h4⟩ := h
  refine ⟨⟨?_, ?_, ?_, ?_, ?_⟩, fun p hp => ?_, fun y hy => ⟨⟨?_, ?_, ?_, ?_, ?_⟩, ?_, fun ht => ?_, ?_, ?_, ?_⟩, fun k hk => ?_⟩
  · rw [gx_u_ne (by omega), su_ne (by omega)]
    exact a1
  · rw [gx_u_ne (by omega), a2]
    exact congrArg (fun x : Nat => (x : Int)) (hmask_ext 40 (fun j hj => by rw [su_ne (by omega)]))
  · rw [gx_u_ne (by omega), a3]
    exact congrArg (fun x : Nat => (x : Int)) (hmask_ext 40 (fun j hj => by rw [su_ne (by omega)]))
  · rw [gx_u_ne (by omega), su_ne (by omega)]
    exact a4
  · rw [gx_u_ne (by omega), su_ne (by omega)]
    exact a5
  · rw [gx_u_ne (by omega), su_ne (by omega)]
    exact h2 p hp
  · rw [gx_u_ne (by omega), su_ne (by omega)]
    exact (h3 y hy).1.1
  · by_cases e : y = P
    · subst e
      rw [gx_u_self, su_self]
    · rw [gx_u_ne (by omega), su_ne (by omega)]
      exact (h3 y hy).1.2.1
  · rw [gx_u_ne (by omega), su_ne (by omega)]
    exact (h3 y hy).1.2.2.1
  · rw [gx_u_ne (by omega), su_ne (by omega)]
    exact (h3 y hy).1.2.2.2.1
  · rw [gx_u_ne (by omega), su_ne (by omega)]
    exact (h3 y hy).1.2.2.2.2
  · rw [gx_u_ne (by omega), su_ne (by omega)]
    exact (h3 y hy).2.1
  · rw [gx_u_ne (by omega), su_ne (by omega)]
    exact (h3 y hy).2.2.1 (by rw [su_ne (by omega)] at ht; exact ht)
  · rw [gx_u_ne (by omega), su_ne (by omega)]
    exact (h3 y hy).2.2.2.1
  · rw [gx_u_ne (by omega), su_ne (by omega)]
    exact (h3 y hy).2.2.2.2.1
  · rw [gx_u_ne (by omega), su_ne (by omega)]
    exact (h3 y hy).2.2.2.2.2
  · rw [gx_u_ne (by omega), su_ne (by omega)]
    exact h4 k hk
theorem sU_skl {P : Nat} (hP : P < 40) (h : sBk b s m) : sBk b (su s (80 + P) v) (gx_u m (b + 4) P v) := by
  obtain ⟨⟨a1, a2, a3, a4, a5⟩, h2, h3, h4⟩ := h
  refine ⟨⟨?_, ?_, ?_, ?_, ?_⟩, fun p hp => ?_, fun y hy => ⟨⟨?_, ?_, ?_, ?_, ?_⟩, ?_, fun ht => ?_, ?_, ?_, ?_⟩, fun k hk => ?_⟩
  · rw [gx_u_ne (by omega), su_ne (by omega)]
    exact a1
  · rw [gx_u_ne (by omega), a2]
    exact congrArg (fun x : Nat => (x : Int)) (hmask_ext 40 (fun j hj => by rw [su_ne (by omega)]))
  · rw [gx_u_ne (by omega), a3]
    exact congrArg (fun x : Nat => (x : Int)) (hmask_ext 40 (fun j hj => by rw [su_ne (by omega)]))
  · rw [gx_u_ne (by omega), su_ne (by omega)]
    exact a4
  · rw [gx_u_ne (by omega), su_ne (by omega)]
    exact a5
  · rw [gx_u_ne (by omega), su_ne (by omega)]
    exact h2 p hp
  · rw [gx_u_ne (by omega), su_ne (by omega)]
    exact (h3 y hy).1.1
  · rw [gx_u_ne (by omega), su_ne (by omega)]
    exact (h3 y hy).1.2.1
  · by_cases e : y = P
    · subst e
      rw [gx_u_self, su_self]
    · rw [gx_u_ne (by omega), su_ne (by omega)]
      exact (h3 y hy).1.2.2.1
  · rw [gx_u_ne (by omega), su_ne (by omega)]
    exact (h3 y hy).1.2.2.2.1
  · rw [gx_u_ne (by omega), su_ne (by omega)]
    exact (h3 y hy).1.2.2.2.2
  · rw [gx_u_ne (by omega), su_ne (by omega)]
    exact (h3 y hy).2.1
  · rw [gx_u_ne (by omega), su_ne (by omega)]
    exact (h3 y hy).2.2.1 (by rw [su_ne (by omega)] at ht; exact ht)
  · rw [gx_u_ne (by omega), su_ne (by omega)]
    exact (h3 y hy).2.2.2.1
  · rw [gx_u_ne (by omega), su_ne (by omega)]
    exact (h3 y hy).2.2.2.2.1
  · rw [gx_u_ne (by omega), su_ne (by omega)]
    exact (h3 y hy).2.2.2.2.2
  · rw [gx_u_ne (by omega), su_ne (by omega)]
    exact h4 k hk
theorem sU_met {P : Nat} (hP : P < 40) (h : sBk b s m) : sBk b (su s (120 + P) v) (gx_u m (b + 5) P v) := by
  obtain ⟨⟨a1, a2, a3, a4, a5⟩, h2, h3, h4⟩ := h
  refine ⟨⟨?_, ?_, ?_, ?_, ?_⟩, fun p hp => ?_, fun y hy => ⟨⟨?_, ?_, ?_, ?_, ?_⟩, ?_, fun ht => ?_, ?_, ?_, ?_⟩, fun k hk => ?_⟩
  · rw [gx_u_ne (by omega), su_ne (by omega)]
    exact a1
  · rw [gx_u_ne (by omega), a2]
    exact congrArg (fun x : Nat => (x : Int)) (hmask_ext 40 (fun j hj => by rw [su_ne (by omega)]))
  · rw [gx_u_ne (by omega), a3]
    exact congrArg (fun x : Nat => (x : Int)) (hmask_ext 40 (fun j hj => by rw [su_ne (by omega)]))
  · rw [gx_u_ne (by omega), su_ne (by omega)]
    exact a4
  · rw [gx_u_ne (by omega), su_ne (by omega)]
    exact a5
  · rw [gx_u_ne (by omega), su_ne (by omega)]
    exact h2 p hp
  · rw [gx_u_ne (by omega), su_ne (by omega)]
    exact (h3 y hy).1.1
  · rw [gx_u_ne (by omega), su_ne (by omega)]
    exact (h3 y hy).1.2.1
  · rw [gx_u_ne (by omega), su_ne (by omega)]
    exact (h3 y hy).1.2.2.1
  · by_cases e : y = P
    · subst e
      rw [gx_u_self, su_self]
    · rw [gx_u_ne (by omega), su_ne (by omega)]
      exact (h3 y hy).1.2.2.2.1
  · rw [gx_u_ne (by omega), su_ne (by omega)]
    exact (h3 y hy).1.2.2.2.2
  · rw [gx_u_ne (by omega), su_ne (by omega)]
    exact (h3 y hy).2.1
  · rw [gx_u_ne (by omega), su_ne (by omega)]
    exact (h3 y hy).2.2.1 (by rw [su_ne (by omega)] at ht; exact ht)
  · rw [gx_u_ne (by omega), su_ne (by omega)]
    exact (h3 y hy).2.2.2.1
  · rw [gx_u_ne (by omega), su_ne (by omega)]
    exact (h3 y hy).2.2.2.2.1
  · rw [gx_u_ne (by omega), su_ne (by omega)]
    exact (h3 y hy).2.2.2.2.2
  · rw [gx_u_ne (by omega), su_ne (by omega)]
    exact h4 k hk
theorem sU_mark {P : Nat} (hP : P < 40) (h : sBk b s m) : sBk b (su s (200 + P) v) (gx_u m (b + 6) P v) := by
  obtain ⟨⟨a1, a2, a3, a4, a5⟩, h2, h3, h4⟩ := h
  refine ⟨⟨?_, ?_, ?_, ?_, ?_⟩, fun p hp => ?_, fun y hy => ⟨⟨?_, ?_, ?_, ?_, ?_⟩, ?_, fun ht => ?_, ?_, ?_, ?_⟩, fun k hk => ?_⟩
  · rw [gx_u_ne (by omega), su_ne (by omega)]
    exact a1
  · rw [gx_u_ne (by omega), a2]
    exact congrArg (fun x : Nat => (x : Int)) (hmask_ext 40 (fun j hj => by rw [su_ne (by omega)]))
  · rw [gx_u_ne (by omega), a3]
    exact congrArg (fun x : Nat => (x : Int)) (hmask_ext 40 (fun j hj => by rw [su_ne (by omega)]))
  · rw [gx_u_ne (by omega), su_ne (by omega)]
    exact a4
  · rw [gx_u_ne (by omega), su_ne (by omega)]
    exact a5
  · rw [gx_u_ne (by omega), su_ne (by omega)]
    exact h2 p hp
  · rw [gx_u_ne (by omega), su_ne (by omega)]
    exact (h3 y hy).1.1
  · rw [gx_u_ne (by omega), su_ne (by omega)]
    exact (h3 y hy).1.2.1
  · rw [gx_u_ne (by omega), su_ne (by omega)]
    exact (h3 y hy).1.2.2.1
  · rw [gx_u_ne (by omega), su_ne (by omega)]
    exact (h3 y hy).1.2.2.2.1
  · by_cases e : y = P
    · subst e
      rw [gx_u_self, su_self]
    · rw [gx_u_ne (by omega), su_ne (by omega)]
      exact (h3 y hy).1.2.2.2.2
  · rw [gx_u_ne (by omega), su_ne (by omega)]
    exact (h3 y hy).2.1
  · rw [gx_u_ne (by omega), su_ne (by omega)]
    exact (h3 y hy).2.2.1 (by rw [su_ne (by omega)] at ht; exact ht)
  · rw [gx_u_ne (by omega), su_ne (by omega)]
    exact (h3 y hy).2.2.2.1
  · rw [gx_u_ne (by omega), su_ne (by omega)]
    exact (h3 y hy).2.2.2.2.1
  · rw [gx_u_ne (by omega), su_ne (by omega)]
    exact (h3 y hy).2.2.2.2.2
  · rw [gx_u_ne (by omega), su_ne (by omega)]
    exact h4 k hk
theorem sU_own {P : Nat} (hP : P < 40) (h : sBk b s m) : sBk b (su s (240 + P) v) (gx_u m (b + 7) P v) := by
  obtain ⟨⟨a1, a2, a3, a4, a5⟩, h2, h3, h4⟩ := h
  refine ⟨⟨?_, ?_, ?_, ?_, ?_⟩, fun p hp => ?_, fun y hy => ⟨⟨?_, ?_, ?_, ?_, ?_⟩, ?_, fun ht => ?_, ?_, ?_, ?_⟩, fun k hk => ?_⟩
  · rw [gx_u_ne (by omega), su_ne (by omega)]
    exact a1
  · rw [gx_u_ne (by omega), a2]
    exact congrArg (fun x : Nat => (x : Int)) (hmask_ext 40 (fun j hj => by rw [su_ne (by omega)]))
  · rw [gx_u_ne (by omega), a3]
    exact congrArg (fun x : Nat => (x : Int)) (hmask_ext 40 (fun j hj => by rw [su_ne (by omega)]))
  · rw [gx_u_ne (by omega), su_ne (by omega)]
    exact a4
  · rw [gx_u_ne (by omega), su_ne (by omega)]
    exact a5
  · rw [gx_u_ne (by omega), su_ne (by omega)]
    exact h2 p hp
  · rw [gx_u_ne (by omega), su_ne (by omega)]
    exact (h3 y hy).1.1
  · rw [gx_u_ne (by omega), su_ne (by omega)]
    exact (h3 y hy).1.2.1
  · rw [gx_u_ne (by omega), su_ne (by omega)]
    exact (h3 y hy).1.2.2.1
  · rw [gx_u_ne (by omega), su_ne (by omega)]
    exact (h3 y hy).1.2.2.2.1
  · rw [gx_u_ne (by omega), su_ne (by omega)]
    exact (h3 y hy).1.2.2.2.2
  · by_cases e : y = P
    · subst e
      rw [gx_u_self, su_self]
    · rw [gx_u_ne (by omega), su_ne (by omega)]
      exact (h3 y hy).2.1
  · rw [gx_u_ne (by omega), su_ne (by omega)]
    exact (h3 y hy).2.2.1 (by rw [su_ne (by omega)] at ht; exact ht)
  · rw [gx_u_ne (by omega), su_ne (by omega)]
    exact (h3 y hy).2.2.2.1
  · rw [gx_u_ne (by omega), su_ne (by omega)]
    exact (h3 y hy).2.2.2.2.1
  · rw [gx_u_ne (by omega), su_ne (by omega)]
    exact (h3 y hy).2.2.2.2.2
  · rw [gx_u_ne (by omega), su_ne (by omega)]
    exact h4 k hk
theorem sU_hold {P : Nat} (hP : P < 40) (h : sBk b s m) : sBk b (su s (280 + P) v) (gx_u m (b + 8) P v) := by
  obtain ⟨⟨a1, a2, a3, a4, a5⟩, h2, h3, h4⟩ := h
  refine ⟨⟨?_, ?_, ?_, ?_, ?_⟩, fun p hp => ?_, fun y hy => ⟨⟨?_, ?_, ?_, ?_, ?_⟩, ?_, fun ht => ?_, ?_, ?_, ?_⟩, fun k hk => ?_⟩
  · rw [gx_u_ne (by omega), su_ne (by omega)]
    exact a1
  · rw [gx_u_ne (by omega), a2]
    exact congrArg (fun x : Nat => (x : Int)) (hmask_ext 40 (fun j hj => by rw [su_ne (by omega)]))
  · rw [gx_u_ne (by omega), a3]
    exact congrArg (fun x : Nat => (x : Int)) (hmask_ext 40 (fun j hj => by rw [su_ne (by omega)]))
  · rw [gx_u_ne (by omega), su_ne (by omega)]
    exact a4
  · rw [gx_u_ne (by omega), su_ne (by omega)]
    exact a5
  · rw [gx_u_ne (by omega), su_ne (by omega)]
    exact h2 p hp
  · rw [gx_u_ne (by omega), su_ne (by omega)]
    exact (h3 y hy).1.1
  · rw [gx_u_ne (by omega), su_ne (by omega)]
    exact (h3 y hy).1.2.1
  · rw [gx_u_ne (by omega), su_ne (by omega)]
    exact (h3 y hy).1.2.2.1
  · rw [gx_u_ne (by omega), su_ne (by omega)]
    exact (h3 y hy).1.2.2.2.1
  · rw [gx_u_ne (by omega), su_ne (by omega)]
    exact (h3 y hy).1.2.2.2.2
  · rw [gx_u_ne (by omega), su_ne (by omega)]
    exact (h3 y hy).2.1
  · by_cases e : y = P
    · subst e
      rw [gx_u_self, su_self]
    · rw [gx_u_ne (by omega), su_ne (by omega)]
      exact (h3 y hy).2.2.1 (by rw [su_ne (by omega)] at ht; exact ht)
  · rw [gx_u_ne (by omega), su_ne (by omega)]
    exact (h3 y hy).2.2.2.1
  · rw [gx_u_ne (by omega), su_ne (by omega)]
    exact (h3 y hy).2.2.2.2.1
  · rw [gx_u_ne (by omega), su_ne (by omega)]
    exact (h3 y hy).2.2.2.2.2
  · rw [gx_u_ne (by omega), su_ne (by omega)]
    exact h4 k hk
theorem sU_lent {P : Nat} (hP : P < 40) (h : sBk b s m) : sBk b (su s (320 + P) v) (gx_u m (b + 9) P v) := by
  obtain ⟨⟨a1, a2, a3, a4, a5⟩, h2, h3, h4⟩ := h
  refine ⟨⟨?_, ?_, ?_, ?_, ?_⟩, fun p hp => ?_, fun y hy => ⟨⟨?_, ?_, ?_, ?_, ?_⟩, ?_, fun ht => ?_, ?_, ?_, ?_⟩, fun k hk => ?_⟩
  · rw [gx_u_ne (by omega), su_ne (by omega)]
    exact a1
  · rw [gx_u_ne (by omega), a2]
    exact congrArg (fun x : Nat => (x : Int)) (hmask_ext 40 (fun j hj => by rw [su_ne (by omega)]))
  · rw [gx_u_ne (by omega), a3]
    exact congrArg (fun x : Nat => (x : Int)) (hmask_ext 40 (fun j hj => by rw [su_ne (by omega)]))
  · rw [gx_u_ne (by omega), su_ne (by omega)]
    exact a4
  · rw [gx_u_ne (by omega), su_ne (by omega)]
    exact a5
  · rw [gx_u_ne (by omega), su_ne (by omega)]
    exact h2 p hp
  · rw [gx_u_ne (by omega), su_ne (by omega)]
    exact (h3 y hy).1.1
  · rw [gx_u_ne (by omega), su_ne (by omega)]
    exact (h3 y hy).1.2.1
  · rw [gx_u_ne (by omega), su_ne (by omega)]
    exact (h3 y hy).1.2.2.1
  · rw [gx_u_ne (by omega), su_ne (by omega)]
    exact (h3 y hy).1.2.2.2.1
  · rw [gx_u_ne (by omega), su_ne (by omega)]
    exact (h3 y hy).1.2.2.2.2
  · rw [gx_u_ne (by omega), su_ne (by omega)]
    exact (h3 y hy).2.1
  · rw [gx_u_ne (by omega), su_ne (by omega)]
    exact (h3 y hy).2.2.1 (by rw [su_ne (by omega)] at ht; exact ht)
  · by_cases e : y = P
    · subst e
      rw [gx_u_self, su_self]
    · rw [gx_u_ne (by omega), su_ne (by omega)]
      exact (h3 y hy).2.2.2.1
  · rw [gx_u_ne (by omega), su_ne (by omega)]
    exact (h3 y hy).2.2.2.2.1
  · rw [gx_u_ne (by omega), su_ne (by omega)]
    exact (h3 y hy).2.2.2.2.2
  · rw [gx_u_ne (by omega), su_ne (by omega)]
    exact h4 k hk
theorem sU_due {P : Nat} (hP : P < 40) (h : sBk b s m) : sBk b (su s (360 + P) v) (gx_u m (b + 10) P v) := by
  obtain ⟨⟨a1, a2, a3, a4, a5⟩, h2, h3, h4⟩ := h
  refine ⟨⟨?_, ?_, ?_, ?_, ?_⟩, fun p hp => ?_, fun y hy => ⟨⟨?_, ?_, ?_, ?_, ?_⟩, ?_, fun ht => ?_, ?_, ?_, ?_⟩, fun k hk => ?_⟩
  · rw [gx_u_ne (by omega), su_ne (by omega)]
    exact a1
  · rw [gx_u_ne (by omega), a2]
    exact congrArg (fun x : Nat => (x : Int)) (hmask_ext 40 (fun j hj => by rw [su_ne (by omega)]))
  · rw [gx_u_ne (by omega), a3]
    exact congrArg (fun x : Nat => (x : Int)) (hmask_ext 40 (fun j hj => by rw [su_ne (by omega)]))
  · rw [gx_u_ne (by omega), su_ne (by omega)]
    exact a4
  · rw [gx_u_ne (by omega), su_ne (by omega)]
    exact a5
  · rw [gx_u_ne (by omega), su_ne (by omega)]
    exact h2 p hp
  · rw [gx_u_ne (by omega), su_ne (by omega)]
    exact (h3 y hy).1.1
  · rw [gx_u_ne (by omega), su_ne (by omega)]
    exact (h3 y hy).1.2.1
  · rw [gx_u_ne (by omega), su_ne (by omega)]
    exact (h3 y hy).1.2.2.1
  · rw [gx_u_ne (by omega), su_ne (by omega)]
    exact (h3 y hy).1.2.2.2.1
  · rw [gx_u_ne (by omega), su_ne (by omega)]
    exact (h3 y hy).1.2.2.2.2
  · rw [gx_u_ne (by omega), su_ne (by omega)]
    exact (h3 y hy).2.1
  · rw [gx_u_ne (by omega), su_ne (by omega)]
    exact (h3 y hy).2.2.1 (by rw [su_ne (by omega)] at ht; exact ht)
  · rw [gx_u_ne (by omega), su_ne (by omega)]
    exact (h3 y hy).2.2.2.1
  · by_cases e : y = P
    · subst e
      rw [gx_u_self, su_self]
    · rw [gx_u_ne (by omega), su_ne (by omega)]
      exact (h3 y hy).2.2.2.2.1
  · rw [gx_u_ne (by omega), su_ne (by omega)]
    exact (h3 y hy).2.2.2.2.2
  · rw [gx_u_ne (by omega), su_ne (by omega)]
    exact h4 k hk
theorem sU_many {P : Nat} (hP : P < 40) (h : sBk b s m) : sBk b (su s (400 + P) v) (gx_u m (b + 11) P v) := by
  obtain ⟨⟨a1, a2, a3, a4, a5⟩, h2, h3, h4⟩ := h
  refine ⟨⟨?_, ?_, ?_, ?_, ?_⟩, fun p hp => ?_, fun y hy => ⟨⟨?_, ?_, ?_, ?_, ?_⟩, ?_, fun ht => ?_, ?_, ?_, ?_⟩, fun k hk => ?_⟩
  · rw [gx_u_ne (by omega), su_ne (by omega)]
    exact a1
  · rw [gx_u_ne (by omega), a2]
    exact congrArg (fun x : Nat => (x : Int)) (hmask_ext 40 (fun j hj => by rw [su_ne (by omega)]))
  · rw [gx_u_ne (by omega), a3]
    exact congrArg (fun x : Nat => (x : Int)) (hmask_ext 40 (fun j hj => by rw [su_ne (by omega)]))
  · rw [gx_u_ne (by omega), su_ne (by omega)]
    exact a4
  · rw [gx_u_ne (by omega), su_ne (by omega)]
    exact a5
  · rw [gx_u_ne (by omega), su_ne (by omega)]
    exact h2 p hp
  · rw [gx_u_ne (by omega), su_ne (by omega)]
    exact (h3 y hy).1.1
  · rw [gx_u_ne (by omega), su_ne (by omega)]
    exact (h3 y hy).1.2.1
  · rw [gx_u_ne (by omega), su_ne (by omega)]
    exact (h3 y hy).1.2.2.1
  · rw [gx_u_ne (by omega), su_ne (by omega)]
    exact (h3 y hy).1.2.2.2.1
  · rw [gx_u_ne (by omega), su_ne (by omega)]
    exact (h3 y hy).1.2.2.2.2
  · rw [gx_u_ne (by omega), su_ne (by omega)]
    exact (h3 y hy).2.1
  · rw [gx_u_ne (by omega), su_ne (by omega)]
    exact (h3 y hy).2.2.1 (by rw [su_ne (by omega)] at ht; exact ht)
  · rw [gx_u_ne (by omega), su_ne (by omega)]
    exact (h3 y hy).2.2.2.1
  · rw [gx_u_ne (by omega), su_ne (by omega)]
    exact (h3 y hy).2.2.2.2.1
  · by_cases e : y = P
    · subst e
      rw [gx_u_self, su_self]
    · rw [gx_u_ne (by omega), su_ne (by omega)]
      exact (h3 y hy).2.2.2.2.2
  · rw [gx_u_ne (by omega), su_ne (by omega)]
    exact h4 k hk
theorem sU_hand {P : Nat} (hP : P < 640) (h : sBk b s m) : sBk b (su s (480 + P) v) (gx_u m (b + 12) P v) := by
  obtain ⟨⟨a1, a2, a3, a4, a5⟩, h2, h3, h4⟩ := h
  refine ⟨⟨?_, ?_, ?_, ?_, ?_⟩, fun p hp => ?_, fun y hy => ⟨⟨?_, ?_, ?_, ?_, ?_⟩, ?_, fun ht => ?_, ?_, ?_, ?_⟩, fun k hk => ?_⟩
  · rw [gx_u_ne (by omega), su_ne (by omega)]
    exact a1
  · rw [gx_u_ne (by omega), a2]
    exact congrArg (fun x : Nat => (x : Int)) (hmask_ext 40 (fun j hj => by rw [su_ne (by omega)]))
  · rw [gx_u_ne (by omega), a3]
    exact congrArg (fun x : Nat => (x : Int)) (hmask_ext 40 (fun j hj => by rw [su_ne (by omega)]))
  · rw [gx_u_ne (by omega), su_ne (by omega)]
    exact a4
  · rw [gx_u_ne (by omega), su_ne (by omega)]
    exact a5
  · rw [gx_u_ne (by omega), su_ne (by omega)]
    exact h2 p hp
  · rw [gx_u_ne (by omega), su_ne (by omega)]
    exact (h3 y hy).1.1
  · rw [gx_u_ne (by omega), su_ne (by omega)]
    exact (h3 y hy).1.2.1
  · rw [gx_u_ne (by omega), su_ne (by omega)]
    exact (h3 y hy).1.2.2.1
  · rw [gx_u_ne (by omega), su_ne (by omega)]
    exact (h3 y hy).1.2.2.2.1
  · rw [gx_u_ne (by omega), su_ne (by omega)]
    exact (h3 y hy).1.2.2.2.2
  · rw [gx_u_ne (by omega), su_ne (by omega)]
    exact (h3 y hy).2.1
  · rw [gx_u_ne (by omega), su_ne (by omega)]
    exact (h3 y hy).2.2.1 (by rw [su_ne (by omega)] at ht; exact ht)
  · rw [gx_u_ne (by omega), su_ne (by omega)]
    exact (h3 y hy).2.2.2.1
  · rw [gx_u_ne (by omega), su_ne (by omega)]
    exact (h3 y hy).2.2.2.2.1
  · rw [gx_u_ne (by omega), su_ne (by omega)]
    exact (h3 y hy).2.2.2.2.2
  · by_cases e : k = P
    · subst e
      rw [gx_u_self, su_self]
    · rw [gx_u_ne (by omega), su_ne (by omega)]
      exact h4 k hk
theorem sU_ppl (h : sBk b s m) : sBk b (su s 1128 v) (gx_u m b 0 v) := by
  obtain ⟨⟨a1, a2, a3, a4, a5⟩, h2, h3, h4⟩ := h
  refine ⟨⟨?_, ?_, ?_, ?_, ?_⟩, fun p hp => ?_, fun y hy => ⟨⟨?_, ?_, ?_, ?_, ?_⟩, ?_, fun ht => ?_, ?_, ?_, ?_⟩, fun k hk => ?_⟩
  · rw [gx_u_self, su_self]
  · rw [gx_u_ne (by omega), a2]
    exact congrArg (fun x : Nat => (x : Int)) (hmask_ext 40 (fun j hj => by rw [su_ne (by omega)]))
  · rw [gx_u_ne (by omega), a3]
    exact congrArg (fun x : Nat => (x : Int)) (hmask_ext 40 (fun j hj => by rw [su_ne (by omega)]))
  · rw [gx_u_ne (by omega), su_ne (by omega)]
    exact a4
  · rw [gx_u_ne (by omega), su_ne (by omega)]
    exact a5
  · rw [gx_u_ne (by omega), su_ne (by omega)]
    exact h2 p hp
  · rw [gx_u_ne (by omega), su_ne (by omega)]
    exact (h3 y hy).1.1
  · rw [gx_u_ne (by omega), su_ne (by omega)]
    exact (h3 y hy).1.2.1
  · rw [gx_u_ne (by omega), su_ne (by omega)]
    exact (h3 y hy).1.2.2.1
  · rw [gx_u_ne (by omega), su_ne (by omega)]
    exact (h3 y hy).1.2.2.2.1
  · rw [gx_u_ne (by omega), su_ne (by omega)]
    exact (h3 y hy).1.2.2.2.2
  · rw [gx_u_ne (by omega), su_ne (by omega)]
    exact (h3 y hy).2.1
  · rw [gx_u_ne (by omega), su_ne (by omega)]
    exact (h3 y hy).2.2.1 (by rw [su_ne (by omega)] at ht; exact ht)
  · rw [gx_u_ne (by omega), su_ne (by omega)]
    exact (h3 y hy).2.2.2.1
  · rw [gx_u_ne (by omega), su_ne (by omega)]
    exact (h3 y hy).2.2.2.2.1
  · rw [gx_u_ne (by omega), su_ne (by omega)]
    exact (h3 y hy).2.2.2.2.2
  · rw [gx_u_ne (by omega), su_ne (by omega)]
    exact h4 k hk
theorem sU_day (h : sBk b s m) : sBk b (su s 1129 v) (gx_u m b 3 v) := by
  obtain ⟨⟨a1, a2, a3, a4, a5⟩, h2, h3, h4⟩ := h
  refine ⟨⟨?_, ?_, ?_, ?_, ?_⟩, fun p hp => ?_, fun y hy => ⟨⟨?_, ?_, ?_, ?_, ?_⟩, ?_, fun ht => ?_, ?_, ?_, ?_⟩, fun k hk => ?_⟩
  · rw [gx_u_ne (by omega), su_ne (by omega)]
    exact a1
  · rw [gx_u_ne (by omega), a2]
    exact congrArg (fun x : Nat => (x : Int)) (hmask_ext 40 (fun j hj => by rw [su_ne (by omega)]))
  · rw [gx_u_ne (by omega), a3]
    exact congrArg (fun x : Nat => (x : Int)) (hmask_ext 40 (fun j hj => by rw [su_ne (by omega)]))
  · rw [gx_u_self, su_self]
  · rw [gx_u_ne (by omega), su_ne (by omega)]
    exact a5
  · rw [gx_u_ne (by omega), su_ne (by omega)]
    exact h2 p hp
  · rw [gx_u_ne (by omega), su_ne (by omega)]
    exact (h3 y hy).1.1
  · rw [gx_u_ne (by omega), su_ne (by omega)]
    exact (h3 y hy).1.2.1
  · rw [gx_u_ne (by omega), su_ne (by omega)]
    exact (h3 y hy).1.2.2.1
  · rw [gx_u_ne (by omega), su_ne (by omega)]
    exact (h3 y hy).1.2.2.2.1
  · rw [gx_u_ne (by omega), su_ne (by omega)]
    exact (h3 y hy).1.2.2.2.2
  · rw [gx_u_ne (by omega), su_ne (by omega)]
    exact (h3 y hy).2.1
  · rw [gx_u_ne (by omega), su_ne (by omega)]
    exact (h3 y hy).2.2.1 (by rw [su_ne (by omega)] at ht; exact ht)
  · rw [gx_u_ne (by omega), su_ne (by omega)]
    exact (h3 y hy).2.2.2.1
  · rw [gx_u_ne (by omega), su_ne (by omega)]
    exact (h3 y hy).2.2.2.2.1
  · rw [gx_u_ne (by omega), su_ne (by omega)]
    exact (h3 y hy).2.2.2.2.2
  · rw [gx_u_ne (by omega), su_ne (by omega)]
    exact h4 k hk
theorem sU_lot (h : sBk b s m) : sBk b (su s 1130 v) (gx_u m b 4 v) := by
  obtain ⟨⟨a1, a2, a3, a4, a5⟩, h2, h3, h4⟩ := h
  refine ⟨⟨?_, ?_, ?_, ?_, ?_⟩, fun p hp => ?_, fun y hy => ⟨⟨?_, ?_, ?_, ?_, ?_⟩, ?_, fun ht => ?_, ?_, ?_, ?_⟩, fun k hk => ?_⟩
  · rw [gx_u_ne (by omega), su_ne (by omega)]
    exact a1
  · rw [gx_u_ne (by omega), a2]
    exact congrArg (fun x : Nat => (x : Int)) (hmask_ext 40 (fun j hj => by rw [su_ne (by omega)]))
  · rw [gx_u_ne (by omega), a3]
    exact congrArg (fun x : Nat => (x : Int)) (hmask_ext 40 (fun j hj => by rw [su_ne (by omega)]))
  · rw [gx_u_ne (by omega), su_ne (by omega)]
    exact a4
  · rw [gx_u_self, su_self]
  · rw [gx_u_ne (by omega), su_ne (by omega)]
    exact h2 p hp
  · rw [gx_u_ne (by omega), su_ne (by omega)]
    exact (h3 y hy).1.1
  · rw [gx_u_ne (by omega), su_ne (by omega)]
    exact (h3 y hy).1.2.1
  · rw [gx_u_ne (by omega), su_ne (by omega)]
    exact (h3 y hy).1.2.2.1
  · rw [gx_u_ne (by omega), su_ne (by omega)]
    exact (h3 y hy).1.2.2.2.1
  · rw [gx_u_ne (by omega), su_ne (by omega)]
    exact (h3 y hy).1.2.2.2.2
  · rw [gx_u_ne (by omega), su_ne (by omega)]
    exact (h3 y hy).2.1
  · rw [gx_u_ne (by omega), su_ne (by omega)]
    exact (h3 y hy).2.2.1 (by rw [su_ne (by omega)] at ht; exact ht)
  · rw [gx_u_ne (by omega), su_ne (by omega)]
    exact (h3 y hy).2.2.2.1
  · rw [gx_u_ne (by omega), su_ne (by omega)]
    exact (h3 y hy).2.2.2.2.1
  · rw [gx_u_ne (by omega), su_ne (by omega)]
    exact (h3 y hy).2.2.2.2.2
  · rw [gx_u_ne (by omega), su_ne (by omega)]
    exact h4 k hk
theorem sU_yrs1 {P : Nat} (hP : P < 40) (hh : m (b + 8) P = s (280 + P)) (h : sBk b s m) : sBk b (su s (440 + P) 1) (gx_u m b 1 (hlor (m b 1) (hlshl 1 (P : Int)))) := by
  obtain ⟨⟨a1, a2, a3, a4, a5⟩, h2, h3, h4⟩ := h
  refine ⟨⟨?_, ?_, ?_, ?_, ?_⟩, fun p hp => ?_, fun y hy => ⟨⟨?_, ?_, ?_, ?_, ?_⟩, ?_, fun ht => ?_, ?_, ?_, ?_⟩, fun k hk => ?_⟩
  · rw [gx_u_ne (by omega), su_ne (by omega)]
    exact a1
  · rw [gx_u_self, a2, hmask_put hP]
    refine congrArg (fun x : Nat => (x : Int)) (hmask_ext 40 (fun j hj => ?_))
    by_cases e : j = P
    · subst e
      rw [su_self]
      simp
    · rw [su_ne (by omega)]
      simp [e]
  · rw [gx_u_ne (by omega), a3]
    exact congrArg (fun x : Nat => (x : Int)) (hmask_ext 40 (fun j hj => by rw [su_ne (by omega)]))
  · rw [gx_u_ne (by omega), su_ne (by omega)]
    exact a4
  · rw [gx_u_ne (by omega), su_ne (by omega)]
    exact a5
  · rw [gx_u_ne (by omega), su_ne (by omega)]
    exact h2 p hp
  · rw [gx_u_ne (by omega), su_ne (by omega)]
    exact (h3 y hy).1.1
  · rw [gx_u_ne (by omega), su_ne (by omega)]
    exact (h3 y hy).1.2.1
  · rw [gx_u_ne (by omega), su_ne (by omega)]
    exact (h3 y hy).1.2.2.1
  · rw [gx_u_ne (by omega), su_ne (by omega)]
    exact (h3 y hy).1.2.2.2.1
  · rw [gx_u_ne (by omega), su_ne (by omega)]
    exact (h3 y hy).1.2.2.2.2
  · rw [gx_u_ne (by omega), su_ne (by omega)]
    exact (h3 y hy).2.1
  · rw [gx_u_ne (by omega), su_ne (by omega)]
    by_cases e : y = P
    · subst e
      exact hh
    · rw [su_ne (by omega)] at ht
      exact (h3 y hy).2.2.1 ht
  · rw [gx_u_ne (by omega), su_ne (by omega)]
    exact (h3 y hy).2.2.2.1
  · rw [gx_u_ne (by omega), su_ne (by omega)]
    exact (h3 y hy).2.2.2.2.1
  · rw [gx_u_ne (by omega), su_ne (by omega)]
    exact (h3 y hy).2.2.2.2.2
  · rw [gx_u_ne (by omega), su_ne (by omega)]
    exact h4 k hk
theorem sU_dds1 {P : Nat} (hP : P < 40) (h : sBk b s m) : sBk b (su s (160 + P) 1) (gx_u m b 2 (hlor (m b 2) (hlshl 1 (P : Int)))) := by
  obtain ⟨⟨a1, a2, a3, a4, a5⟩, h2, h3, h4⟩ := h
  refine ⟨⟨?_, ?_, ?_, ?_, ?_⟩, fun p hp => ?_, fun y hy => ⟨⟨?_, ?_, ?_, ?_, ?_⟩, ?_, fun ht => ?_, ?_, ?_, ?_⟩, fun k hk => ?_⟩
  · rw [gx_u_ne (by omega), su_ne (by omega)]
    exact a1
  · rw [gx_u_ne (by omega), a2]
    exact congrArg (fun x : Nat => (x : Int)) (hmask_ext 40 (fun j hj => by rw [su_ne (by omega)]))
  · rw [gx_u_self, a3, hmask_put hP]
    refine congrArg (fun x : Nat => (x : Int)) (hmask_ext 40 (fun j hj => ?_))
    by_cases e : j = P
    · subst e
      rw [su_self]
      simp
    · rw [su_ne (by omega)]
      simp [e]
  · rw [gx_u_ne (by omega), su_ne (by omega)]
    exact a4
  · rw [gx_u_ne (by omega), su_ne (by omega)]
    exact a5
  · rw [gx_u_ne (by omega), su_ne (by omega)]
    exact h2 p hp
  · rw [gx_u_ne (by omega), su_ne (by omega)]
    exact (h3 y hy).1.1
  · rw [gx_u_ne (by omega), su_ne (by omega)]
    exact (h3 y hy).1.2.1
  · rw [gx_u_ne (by omega), su_ne (by omega)]
    exact (h3 y hy).1.2.2.1
  · rw [gx_u_ne (by omega), su_ne (by omega)]
    exact (h3 y hy).1.2.2.2.1
  · rw [gx_u_ne (by omega), su_ne (by omega)]
    exact (h3 y hy).1.2.2.2.2
  · rw [gx_u_ne (by omega), su_ne (by omega)]
    exact (h3 y hy).2.1
  · rw [su_ne (by omega)] at ht
    rw [gx_u_ne (by omega), su_ne (by omega)]
    exact (h3 y hy).2.2.1 ht
  · rw [gx_u_ne (by omega), su_ne (by omega)]
    exact (h3 y hy).2.2.2.1
  · rw [gx_u_ne (by omega), su_ne (by omega)]
    exact (h3 y hy).2.2.2.2.1
  · rw [gx_u_ne (by omega), su_ne (by omega)]
    exact (h3 y hy).2.2.2.2.2
  · rw [gx_u_ne (by omega), su_ne (by omega)]
    exact h4 k hk
theorem sU_dds0 {P : Nat} (hP : P < 40) (h : sBk b s m) : sBk b (su s (160 + P) 0) (gx_u m b 2 (hland (m b 2) (hlxor (hlshl 1 (P : Int)) (-1)))) := by
  obtain ⟨⟨a1, a2, a3, a4, a5⟩, h2, h3, h4⟩ := h
  refine ⟨⟨?_, ?_, ?_, ?_, ?_⟩, fun p hp => ?_, fun y hy => ⟨⟨?_, ?_, ?_, ?_, ?_⟩, ?_, fun ht => ?_, ?_, ?_, ?_⟩, fun k hk => ?_⟩
  · rw [gx_u_ne (by omega), su_ne (by omega)]
    exact a1
  · rw [gx_u_ne (by omega), a2]
    exact congrArg (fun x : Nat => (x : Int)) (hmask_ext 40 (fun j hj => by rw [su_ne (by omega)]))
  · rw [gx_u_self, a3, hmask_del hP]
    refine congrArg (fun x : Nat => (x : Int)) (hmask_ext 40 (fun j hj => ?_))
    by_cases e : j = P
    · subst e
      rw [su_self]
      simp
    · rw [su_ne (by omega)]
      simp [e]
  · rw [gx_u_ne (by omega), su_ne (by omega)]
    exact a4
  · rw [gx_u_ne (by omega), su_ne (by omega)]
    exact a5
  · rw [gx_u_ne (by omega), su_ne (by omega)]
    exact h2 p hp
  · rw [gx_u_ne (by omega), su_ne (by omega)]
    exact (h3 y hy).1.1
  · rw [gx_u_ne (by omega), su_ne (by omega)]
    exact (h3 y hy).1.2.1
  · rw [gx_u_ne (by omega), su_ne (by omega)]
    exact (h3 y hy).1.2.2.1
  · rw [gx_u_ne (by omega), su_ne (by omega)]
    exact (h3 y hy).1.2.2.2.1
  · rw [gx_u_ne (by omega), su_ne (by omega)]
    exact (h3 y hy).1.2.2.2.2
  · rw [gx_u_ne (by omega), su_ne (by omega)]
    exact (h3 y hy).2.1
  · rw [su_ne (by omega)] at ht
    rw [gx_u_ne (by omega), su_ne (by omega)]
    exact (h3 y hy).2.2.1 ht
  · rw [gx_u_ne (by omega), su_ne (by omega)]
    exact (h3 y hy).2.2.2.1
  · rw [gx_u_ne (by omega), su_ne (by omega)]
    exact (h3 y hy).2.2.2.2.1
  · rw [gx_u_ne (by omega), su_ne (by omega)]
    exact (h3 y hy).2.2.2.2.2
  · rw [gx_u_ne (by omega), su_ne (by omega)]
    exact h4 k hk
end SU
section SUK
variable {s : Nat → Int} {v : Int}
theorem sK_date {P : Nat} (hP : P < 40) (hv : 0 ≤ v ∧ v ≤ 99) (h : sOK s) : sOK (su s (P) v) := by
  obtain ⟨h1, h2, h3, h4, h5⟩ := h
  refine ⟨fun y hy => ?_, fun k hk => by rw [su_ne (by omega)]; exact h2 k hk, fun p hp => by rw [su_ne (by omega), su_ne (by omega)]; exact h3 p hp, by rw [su_ne (by omega)]; exact h4, by rw [su_ne (by omega)]; exact h5⟩
  obtain ⟨q0, q1, q2, q3, q4, q5, q6, q7, q8, q9, q10, q11⟩ := h1 y hy
  by_cases e : y = P
  · subst e
    exact ⟨by rw [su_ne (by omega)]; exact q0, by rw [su_ne (by omega)]; exact q1, by rw [su_self]; exact hv, by rw [su_ne (by omega)]; exact q3, by rw [su_ne (by omega)]; exact q4, by rw [su_ne (by omega)]; exact q5, by rw [su_ne (by omega)]; exact q6, by rw [su_ne (by omega)]; exact q7, by rw [su_ne (by omega)]; exact q8, by rw [su_ne (by omega)]; exact q9, by rw [su_ne (by omega)]; exact q10, by rw [su_ne (by omega)]; exact q11⟩
  · exact ⟨by rw [su_ne (by omega)]; exact q0, by rw [su_ne (by omega)]; exact q1, by rw [su_ne (by omega)]; exact q2, by rw [su_ne (by omega)]; exact q3, by rw [su_ne (by omega)]; exact q4, by rw [su_ne (by omega)]; exact q5, by rw [su_ne (by omega)]; exact q6, by rw [su_ne (by omega)]; exact q7, by rw [su_ne (by omega)]; exact q8, by rw [su_ne (by omega)]; exact q9, by rw [su_ne (by omega)]; exact q10, by rw [su_ne (by omega)]; exact q11⟩
theorem sK_livr {P : Nat} (hP : P < 40) (hv : 0 ≤ v ∧ v ≤ 7) (h : sOK s) : sOK (su s (40 + P) v) := by
  obtain ⟨h1, h2, h3, h4, h5⟩ := h
  refine ⟨fun y hy => ?_, fun k hk => by rw [su_ne (by omega)]; exact h2 k hk, fun p hp => by rw [su_ne (by omega), su_ne (by omega)]; exact h3 p hp, by rw [su_ne (by omega)]; exact h4, by rw [su_ne (by omega)]; exact h5⟩
  obtain ⟨q0, q1, q2, q3, q4, q5, q6, q7, q8, q9, q10, q11⟩ := h1 y hy
  by_cases e : y = P
  · subst e
    exact ⟨by rw [su_ne (by omega)]; exact q0, by rw [su_ne (by omega)]; exact q1, by rw [su_ne (by omega)]; exact q2, by rw [su_self]; exact hv, by rw [su_ne (by omega)]; exact q4, by rw [su_ne (by omega)]; exact q5, by rw [su_ne (by omega)]; exact q6, by rw [su_ne (by omega)]; exact q7, by rw [su_ne (by omega)]; exact q8, by rw [su_ne (by omega)]; exact q9, by rw [su_ne (by omega)]; exact q10, by rw [su_ne (by omega)]; exact q11⟩
  · exact ⟨by rw [su_ne (by omega)]; exact q0, by rw [su_ne (by omega)]; exact q1, by rw [su_ne (by omega)]; exact q2, by rw [su_ne (by omega)]; exact q3, by rw [su_ne (by omega)]; exact q4, by rw [su_ne (by omega)]; exact q5, by rw [su_ne (by omega)]; exact q6, by rw [su_ne (by omega)]; exact q7, by rw [su_ne (by omega)]; exact q8, by rw [su_ne (by omega)]; exact q9, by rw [su_ne (by omega)]; exact q10, by rw [su_ne (by omega)]; exact q11⟩
theorem sK_skl {P : Nat} (hP : P < 40) (hv : 0 ≤ v ∧ v ≤ 4095) (h : sOK s) : sOK (su s (80 + P) v) := by
  obtain ⟨h1, h2, h3, h4, h5⟩ := h
  refine ⟨fun y hy => ?_, fun k hk => by rw [su_ne (by omega)]; exact h2 k hk, fun p hp => by rw [su_ne (by omega), su_ne (by omega)]; exact h3 p hp, by rw [su_ne (by omega)]; exact h4, by rw [su_ne (by omega)]; exact h5⟩
  obtain ⟨q0, q1, q2, q3, q4, q5, q6, q7, q8, q9, q10, q11⟩ := h1 y hy
  by_cases e : y = P
  · subst e
    exact ⟨by rw [su_ne (by omega)]; exact q0, by rw [su_ne (by omega)]; exact q1, by rw [su_ne (by omega)]; exact q2, by rw [su_ne (by omega)]; exact q3, by rw [su_self]; exact hv, by rw [su_ne (by omega)]; exact q5, by rw [su_ne (by omega)]; exact q6, by rw [su_ne (by omega)]; exact q7, by rw [su_ne (by omega)]; exact q8, by rw [su_ne (by omega)]; exact q9, by rw [su_ne (by omega)]; exact q10, by rw [su_ne (by omega)]; exact q11⟩
  · exact ⟨by rw [su_ne (by omega)]; exact q0, by rw [su_ne (by omega)]; exact q1, by rw [su_ne (by omega)]; exact q2, by rw [su_ne (by omega)]; exact q3, by rw [su_ne (by omega)]; exact q4, by rw [su_ne (by omega)]; exact q5, by rw [su_ne (by omega)]; exact q6, by rw [su_ne (by omega)]; exact q7, by rw [su_ne (by omega)]; exact q8, by rw [su_ne (by omega)]; exact q9, by rw [su_ne (by omega)]; exact q10, by rw [su_ne (by omega)]; exact q11⟩
theorem sK_met {P : Nat} (hP : P < 40) (hv : 0 ≤ v ∧ v ≤ 255) (h : sOK s) : sOK (su s (120 + P) v) := by
  obtain ⟨h1, h2, h3, h4, h5⟩ := h
  refine ⟨fun y hy => ?_, fun k hk => by rw [su_ne (by omega)]; exact h2 k hk, fun p hp => by rw [su_ne (by omega), su_ne (by omega)]; exact h3 p hp, by rw [su_ne (by omega)]; exact h4, by rw [su_ne (by omega)]; exact h5⟩
  obtain ⟨q0, q1, q2, q3, q4, q5, q6, q7, q8, q9, q10, q11⟩ := h1 y hy
  by_cases e : y = P
  · subst e
    exact ⟨by rw [su_ne (by omega)]; exact q0, by rw [su_ne (by omega)]; exact q1, by rw [su_ne (by omega)]; exact q2, by rw [su_ne (by omega)]; exact q3, by rw [su_ne (by omega)]; exact q4, by rw [su_self]; exact hv, by rw [su_ne (by omega)]; exact q6, by rw [su_ne (by omega)]; exact q7, by rw [su_ne (by omega)]; exact q8, by rw [su_ne (by omega)]; exact q9, by rw [su_ne (by omega)]; exact q10, by rw [su_ne (by omega)]; exact q11⟩
  · exact ⟨by rw [su_ne (by omega)]; exact q0, by rw [su_ne (by omega)]; exact q1, by rw [su_ne (by omega)]; exact q2, by rw [su_ne (by omega)]; exact q3, by rw [su_ne (by omega)]; exact q4, by rw [su_ne (by omega)]; exact q5, by rw [su_ne (by omega)]; exact q6, by rw [su_ne (by omega)]; exact q7, by rw [su_ne (by omega)]; exact q8, by rw [su_ne (by omega)]; exact q9, by rw [su_ne (by omega)]; exact q10, by rw [su_ne (by omega)]; exact q11⟩
theorem sK_deed {P : Nat} (hP : P < 40) (hv : v = 0 ∨ v = 1) (h : sOK s) : sOK (su s (160 + P) v) := by
  obtain ⟨h1, h2, h3, h4, h5⟩ := h
  refine ⟨fun y hy => ?_, fun k hk => by rw [su_ne (by omega)]; exact h2 k hk, fun p hp => by rw [su_ne (by omega), su_ne (by omega)]; exact h3 p hp, by rw [su_ne (by omega)]; exact h4, by rw [su_ne (by omega)]; exact h5⟩
  obtain ⟨q0, q1, q2, q3, q4, q5, q6, q7, q8, q9, q10, q11⟩ := h1 y hy
  by_cases e : y = P
  · subst e
    exact ⟨by rw [su_ne (by omega)]; exact q0, by rw [su_self]; exact hv, by rw [su_ne (by omega)]; exact q2, by rw [su_ne (by omega)]; exact q3, by rw [su_ne (by omega)]; exact q4, by rw [su_ne (by omega)]; exact q5, by rw [su_ne (by omega)]; exact q6, by rw [su_ne (by omega)]; exact q7, by rw [su_ne (by omega)]; exact q8, by rw [su_ne (by omega)]; exact q9, by rw [su_ne (by omega)]; exact q10, by rw [su_ne (by omega)]; exact q11⟩
  · exact ⟨by rw [su_ne (by omega)]; exact q0, by rw [su_ne (by omega)]; exact q1, by rw [su_ne (by omega)]; exact q2, by rw [su_ne (by omega)]; exact q3, by rw [su_ne (by omega)]; exact q4, by rw [su_ne (by omega)]; exact q5, by rw [su_ne (by omega)]; exact q6, by rw [su_ne (by omega)]; exact q7, by rw [su_ne (by omega)]; exact q8, by rw [su_ne (by omega)]; exact q9, by rw [su_ne (by omega)]; exact q10, by rw [su_ne (by omega)]; exact q11⟩
theorem sK_mark {P : Nat} (hP : P < 40) (hv : 0 ≤ v ∧ v ≤ 9) (h : sOK s) : sOK (su s (200 + P) v) := by
  obtain ⟨h1, h2, h3, h4, h5⟩ := h
  refine ⟨fun y hy => ?_, fun k hk => by rw [su_ne (by omega)]; exact h2 k hk, fun p hp => by rw [su_ne (by omega), su_ne (by omega)]; exact h3 p hp, by rw [su_ne (by omega)]; exact h4, by rw [su_ne (by omega)]; exact h5⟩
  obtain ⟨q0, q1, q2, q3, q4, q5, q6, q7, q8, q9, q10, q11⟩ := h1 y hy
  by_cases e : y = P
  · subst e
    exact ⟨by rw [su_ne (by omega)]; exact q0, by rw [su_ne (by omega)]; exact q1, by rw [su_ne (by omega)]; exact q2, by rw [su_ne (by omega)]; exact q3, by rw [su_ne (by omega)]; exact q4, by rw [su_ne (by omega)]; exact q5, by rw [su_self]; exact hv, by rw [su_ne (by omega)]; exact q7, by rw [su_ne (by omega)]; exact q8, by rw [su_ne (by omega)]; exact q9, by rw [su_ne (by omega)]; exact q10, by rw [su_ne (by omega)]; exact q11⟩
  · exact ⟨by rw [su_ne (by omega)]; exact q0, by rw [su_ne (by omega)]; exact q1, by rw [su_ne (by omega)]; exact q2, by rw [su_ne (by omega)]; exact q3, by rw [su_ne (by omega)]; exact q4, by rw [su_ne (by omega)]; exact q5, by rw [su_ne (by omega)]; exact q6, by rw [su_ne (by omega)]; exact q7, by rw [su_ne (by omega)]; exact q8, by rw [su_ne (by omega)]; exact q9, by rw [su_ne (by omega)]; exact q10, by rw [su_ne (by omega)]; exact q11⟩
theorem sK_own {P : Nat} (hP : P < 40) (hv : 0 ≤ v ∧ v ≤ 7) (h : sOK s) : sOK (su s (240 + P) v) := by
  obtain ⟨h1, h2, h3, h4, h5⟩ := h
  refine ⟨fun y hy => ?_, fun k hk => by rw [su_ne (by omega)]; exact h2 k hk, fun p hp => by rw [su_ne (by omega), su_ne (by omega)]; exact h3 p hp, by rw [su_ne (by omega)]; exact h4, by rw [su_ne (by omega)]; exact h5⟩
  obtain ⟨q0, q1, q2, q3, q4, q5, q6, q7, q8, q9, q10, q11⟩ := h1 y hy
  by_cases e : y = P
  · subst e
    exact ⟨by rw [su_ne (by omega)]; exact q0, by rw [su_ne (by omega)]; exact q1, by rw [su_ne (by omega)]; exact q2, by rw [su_ne (by omega)]; exact q3, by rw [su_ne (by omega)]; exact q4, by rw [su_ne (by omega)]; exact q5, by rw [su_ne (by omega)]; exact q6, by rw [su_self]; exact hv, by rw [su_ne (by omega)]; exact q8, by rw [su_ne (by omega)]; exact q9, by rw [su_ne (by omega)]; exact q10, by rw [su_ne (by omega)]; exact q11⟩
  · exact ⟨by rw [su_ne (by omega)]; exact q0, by rw [su_ne (by omega)]; exact q1, by rw [su_ne (by omega)]; exact q2, by rw [su_ne (by omega)]; exact q3, by rw [su_ne (by omega)]; exact q4, by rw [su_ne (by omega)]; exact q5, by rw [su_ne (by omega)]; exact q6, by rw [su_ne (by omega)]; exact q7, by rw [su_ne (by omega)]; exact q8, by rw [su_ne (by omega)]; exact q9, by rw [su_ne (by omega)]; exact q10, by rw [su_ne (by omega)]; exact q11⟩
theorem sK_hold {P : Nat} (hP : P < 40) (hv : v = -2 ∨ (0 ≤ v ∧ v ≤ 7)) (h : sOK s) : sOK (su s (280 + P) v) := by
  obtain ⟨h1, h2, h3, h4, h5⟩ := h
  refine ⟨fun y hy => ?_, fun k hk => by rw [su_ne (by omega)]; exact h2 k hk, fun p hp => by rw [su_ne (by omega), su_ne (by omega)]; exact h3 p hp, by rw [su_ne (by omega)]; exact h4, by rw [su_ne (by omega)]; exact h5⟩
  obtain ⟨q0, q1, q2, q3, q4, q5, q6, q7, q8, q9, q10, q11⟩ := h1 y hy
  by_cases e : y = P
  · subst e
    exact ⟨by rw [su_ne (by omega)]; exact q0, by rw [su_ne (by omega)]; exact q1, by rw [su_ne (by omega)]; exact q2, by rw [su_ne (by omega)]; exact q3, by rw [su_ne (by omega)]; exact q4, by rw [su_ne (by omega)]; exact q5, by rw [su_ne (by omega)]; exact q6, by rw [su_ne (by omega)]; exact q7, by rw [su_self]; exact hv, by rw [su_ne (by omega)]; exact q9, by rw [su_ne (by omega)]; exact q10, by rw [su_ne (by omega)]; exact q11⟩
  · exact ⟨by rw [su_ne (by omega)]; exact q0, by rw [su_ne (by omega)]; exact q1, by rw [su_ne (by omega)]; exact q2, by rw [su_ne (by omega)]; exact q3, by rw [su_ne (by omega)]; exact q4, by rw [su_ne (by omega)]; exact q5, by rw [su_ne (by omega)]; exact q6, by rw [su_ne (by omega)]; exact q7, by rw [su_ne (by omega)]; exact q8, by rw [su_ne (by omega)]; exact q9, by rw [su_ne (by omega)]; exact q10, by rw [su_ne (by omega)]; exact q11⟩
theorem sK_lent {P : Nat} (hP : P < 40) (hv : 0 ≤ v ∧ v ≤ 99999) (h : sOK s) : sOK (su s (320 + P) v) := by
  obtain ⟨h1, h2, h3, h4, h5⟩ := h
  refine ⟨fun y hy => ?_, fun k hk => by rw [su_ne (by omega)]; exact h2 k hk, fun p hp => by rw [su_ne (by omega), su_ne (by omega)]; exact h3 p hp, by rw [su_ne (by omega)]; exact h4, by rw [su_ne (by omega)]; exact h5⟩
  obtain ⟨q0, q1, q2, q3, q4, q5, q6, q7, q8, q9, q10, q11⟩ := h1 y hy
  by_cases e : y = P
  · subst e
    exact ⟨by rw [su_ne (by omega)]; exact q0, by rw [su_ne (by omega)]; exact q1, by rw [su_ne (by omega)]; exact q2, by rw [su_ne (by omega)]; exact q3, by rw [su_ne (by omega)]; exact q4, by rw [su_ne (by omega)]; exact q5, by rw [su_ne (by omega)]; exact q6, by rw [su_ne (by omega)]; exact q7, by rw [su_ne (by omega)]; exact q8, by rw [su_self]; exact hv, by rw [su_ne (by omega)]; exact q10, by rw [su_ne (by omega)]; exact q11⟩
  · exact ⟨by rw [su_ne (by omega)]; exact q0, by rw [su_ne (by omega)]; exact q1, by rw [su_ne (by omega)]; exact q2, by rw [su_ne (by omega)]; exact q3, by rw [su_ne (by omega)]; exact q4, by rw [su_ne (by omega)]; exact q5, by rw [su_ne (by omega)]; exact q6, by rw [su_ne (by omega)]; exact q7, by rw [su_ne (by omega)]; exact q8, by rw [su_ne (by omega)]; exact q9, by rw [su_ne (by omega)]; exact q10, by rw [su_ne (by omega)]; exact q11⟩
theorem sK_due {P : Nat} (hP : P < 40) (hv : 0 ≤ v ∧ v ≤ 99999) (h : sOK s) : sOK (su s (360 + P) v) := by
  obtain ⟨h1, h2, h3, h4, h5⟩ := h
  refine ⟨fun y hy => ?_, fun k hk => by rw [su_ne (by omega)]; exact h2 k hk, fun p hp => by rw [su_ne (by omega), su_ne (by omega)]; exact h3 p hp, by rw [su_ne (by omega)]; exact h4, by rw [su_ne (by omega)]; exact h5⟩
  obtain ⟨q0, q1, q2, q3, q4, q5, q6, q7, q8, q9, q10, q11⟩ := h1 y hy
  by_cases e : y = P
  · subst e
    exact ⟨by rw [su_ne (by omega)]; exact q0, by rw [su_ne (by omega)]; exact q1, by rw [su_ne (by omega)]; exact q2, by rw [su_ne (by omega)]; exact q3, by rw [su_ne (by omega)]; exact q4, by rw [su_ne (by omega)]; exact q5, by rw [su_ne (by omega)]; exact q6, by rw [su_ne (by omega)]; exact q7, by rw [su_ne (by omega)]; exact q8, by rw [su_ne (by omega)]; exact q9, by rw [su_self]; exact hv, by rw [su_ne (by omega)]; exact q11⟩
  · exact ⟨by rw [su_ne (by omega)]; exact q0, by rw [su_ne (by omega)]; exact q1, by rw [su_ne (by omega)]; exact q2, by rw [su_ne (by omega)]; exact q3, by rw [su_ne (by omega)]; exact q4, by rw [su_ne (by omega)]; exact q5, by rw [su_ne (by omega)]; exact q6, by rw [su_ne (by omega)]; exact q7, by rw [su_ne (by omega)]; exact q8, by rw [su_ne (by omega)]; exact q9, by rw [su_ne (by omega)]; exact q10, by rw [su_ne (by omega)]; exact q11⟩
theorem sK_many {P : Nat} (hP : P < 40) (hv : 0 ≤ v ∧ v ≤ 16) (h : sOK s) : sOK (su s (400 + P) v) := by
  obtain ⟨h1, h2, h3, h4, h5⟩ := h
  refine ⟨fun y hy => ?_, fun k hk => by rw [su_ne (by omega)]; exact h2 k hk, fun p hp => by rw [su_ne (by omega), su_ne (by omega)]; exact h3 p hp, by rw [su_ne (by omega)]; exact h4, by rw [su_ne (by omega)]; exact h5⟩
  obtain ⟨q0, q1, q2, q3, q4, q5, q6, q7, q8, q9, q10, q11⟩ := h1 y hy
  by_cases e : y = P
  · subst e
    exact ⟨by rw [su_ne (by omega)]; exact q0, by rw [su_ne (by omega)]; exact q1, by rw [su_ne (by omega)]; exact q2, by rw [su_ne (by omega)]; exact q3, by rw [su_ne (by omega)]; exact q4, by rw [su_ne (by omega)]; exact q5, by rw [su_ne (by omega)]; exact q6, by rw [su_ne (by omega)]; exact q7, by rw [su_ne (by omega)]; exact q8, by rw [su_ne (by omega)]; exact q9, by rw [su_ne (by omega)]; exact q10, by rw [su_self]; exact hv⟩
  · exact ⟨by rw [su_ne (by omega)]; exact q0, by rw [su_ne (by omega)]; exact q1, by rw [su_ne (by omega)]; exact q2, by rw [su_ne (by omega)]; exact q3, by rw [su_ne (by omega)]; exact q4, by rw [su_ne (by omega)]; exact q5, by rw [su_ne (by omega)]; exact q6, by rw [su_ne (by omega)]; exact q7, by rw [su_ne (by omega)]; exact q8, by rw [su_ne (by omega)]; exact q9, by rw [su_ne (by omega)]; exact q10, by rw [su_ne (by omega)]; exact q11⟩
theorem sK_there {P : Nat} (hP : P < 40) (hv : v = 0 ∨ v = 1) (h : sOK s) : sOK (su s (440 + P) v) := by
  obtain ⟨h1, h2, h3, h4, h5⟩ := h
  refine ⟨fun y hy => ?_, fun k hk => by rw [su_ne (by omega)]; exact h2 k hk, fun p hp => by rw [su_ne (by omega), su_ne (by omega)]; exact h3 p hp, by rw [su_ne (by omega)]; exact h4, by rw [su_ne (by omega)]; exact h5⟩
  obtain ⟨q0, q1, q2, q3, q4, q5, q6, q7, q8, q9, q10, q11⟩ := h1 y hy
  by_cases e : y = P
  · subst e
    exact ⟨by rw [su_self]; exact hv, by rw [su_ne (by omega)]; exact q1, by rw [su_ne (by omega)]; exact q2, by rw [su_ne (by omega)]; exact q3, by rw [su_ne (by omega)]; exact q4, by rw [su_ne (by omega)]; exact q5, by rw [su_ne (by omega)]; exact q6, by rw [su_ne (by omega)]; exact q7, by rw [su_ne (by omega)]; exact q8, by rw [su_ne (by omega)]; exact q9, by rw [su_ne (by omega)]; exact q10, by rw [su_ne (by omega)]; exact q11⟩
  · exact ⟨by rw [su_ne (by omega)]; exact q0, by rw [su_ne (by omega)]; exact q1, by rw [su_ne (by omega)]; exact q2, by rw [su_ne (by omega)]; exact q3, by rw [su_ne (by omega)]; exact q4, by rw [su_ne (by omega)]; exact q5, by rw [su_ne (by omega)]; exact q6, by rw [su_ne (by omega)]; exact q7, by rw [su_ne (by omega)]; exact q8, by rw [su_ne (by omega)]; exact q9, by rw [su_ne (by omega)]; exact q10, by rw [su_ne (by omega)]; exact q11⟩
theorem sK_hand {P : Nat} (hP : P < 640) (hv : 0 ≤ v ∧ v ≤ 7) (h : sOK s) : sOK (su s (480 + P) v) := by
  obtain ⟨h1, h2, h3, h4, h5⟩ := h
  refine ⟨fun y hy => sYr_s hy (fun k hk => su_ne (by omega)) (h1 y hy), fun k hk => ?_, fun p hp => by rw [su_ne (by omega), su_ne (by omega)]; exact h3 p hp, by rw [su_ne (by omega)]; exact h4, by rw [su_ne (by omega)]; exact h5⟩
  by_cases e : k = P
  · subst e
    rw [su_self]
    exact hv
  · rw [su_ne (by omega)]
    exact h2 k hk
theorem sK_coin {P : Nat} (hP : P < 8) (hv : 0 ≤ v ∧ v ≤ 99999) (hz : gx_and (gx_shr (s 1128) (P : Int)) 1 = 0 → v = 0) (h : sOK s) : sOK (su s (1120 + P) v) := by
  obtain ⟨h1, h2, h3, h4, h5⟩ := h
  refine ⟨fun y hy => sYr_s hy (fun k hk => su_ne (by omega)) (h1 y hy), fun k hk => by rw [su_ne (by omega)]; exact h2 k hk, fun p hp => ?_, by rw [su_ne (by omega)]; exact h4, by rw [su_ne (by omega)]; exact h5⟩
  rw [su_ne (j := 1128) (by omega)]
  by_cases e : p = P
  · subst e
    rw [su_self]
    exact ⟨hv, hz⟩
  · rw [su_ne (by omega)]
    exact h3 p hp
theorem sK_day (h : sOK s) : sOK (su s 1129 v) := by
  obtain ⟨h1, h2, h3, h4, h5⟩ := h
  exact ⟨fun y hy => sYr_s hy (fun k hk => su_ne (by omega)) (h1 y hy), fun k hk => by rw [su_ne (by omega)]; exact h2 k hk, fun p hp => by rw [su_ne (by omega), su_ne (by omega)]; exact h3 p hp, by rw [su_ne (by omega)]; exact h4, by rw [su_ne (by omega)]; exact h5⟩
theorem sK_lot (hv : 0 ≤ v ∧ v ≤ 65535) (h : sOK s) : sOK (su s 1130 v) := by
  obtain ⟨h1, h2, h3, h4, h5⟩ := h
  exact ⟨fun y hy => sYr_s hy (fun k hk => su_ne (by omega)) (h1 y hy), fun k hk => by rw [su_ne (by omega)]; exact h2 k hk, fun p hp => by rw [su_ne (by omega), su_ne (by omega)]; exact h3 p hp, by rw [su_ne (by omega)]; exact h4, by rw [su_self]; exact hv⟩
theorem sK_ppl (hv : 0 ≤ v ∧ v ≤ 255) (hz : ∀ p : Nat, p < 8 → gx_and (gx_shr v (p : Int)) 1 = 0 → gx_and (gx_shr (s 1128) (p : Int)) 1 = 0 ∨ s (1120 + p) = 0) (h : sOK s) : sOK (su s 1128 v) := by
  obtain ⟨h1, h2, h3, h4, h5⟩ := h
  refine ⟨fun y hy => sYr_s hy (fun k hk => su_ne (by omega)) (h1 y hy), fun k hk => by rw [su_ne (by omega)]; exact h2 k hk, fun p hp => ?_, by rw [su_self]; exact hv, by rw [su_ne (by omega)]; exact h5⟩
  rw [su_self, su_ne (by omega)]
  exact ⟨(h3 p hp).1, fun c => (hz p hp c).elim (h3 p hp).2 id⟩
end SUK
end
section
/-! acts: when they can be, what they do -/
def cl99 (x : Int) : Int := if x < 99999 then x else 99999
def sPwn (s : Nat → Int) (y : Nat) (p z : Int) : Nat → Int := su (su (su s (280 + y) p) (320 + y) z) (360 + y) z
def sGo (s : Nat → Int) (y : Nat) (p : Int) : Nat → Int := if s (400 + y) = 16 then sPwn (su s (240 + y) p) y (-2) 0 else su (su (sPwn (su s (240 + y) p) y (-2) 0) (480 + (16 * y + (s (400 + y)).toNat)) p) (400 + y) (s (400 + y) + 1)
def sPay (s : Nat → Int) (p q : Nat) (z : Int) : Nat → Int := su (su s (1120 + p) (s (1120 + p) - z)) (1120 + q) (cl99 (s (1120 + q) + z))
def dCan (W : (Int → Int) → Int → Option Int) (s : Nat → Int) (a : hAct) : Prop := s (440 + a.1) = 1 ∧ aPers s (a.2.1 : Int) ∧ aPers s (a.2.2.2.1 : Int) ∧ s (240 + a.1) = (a.2.1 : Int) ∧ ((a.2.2.1 = 91 ∧ s (280 + a.1) = (a.2.2.2.1 : Int) ∧ s (360 + a.1) ≤ s (1120 + a.2.1)) ∨ (a.2.2.1 ≠ 91 ∧ s (280 + a.1) = -2 ∧ (a.2.2.2.2 : Int) ≤ s (1120 + a.2.2.2.1) ∧ (W (env1 s a.1 (a.2.2.2.1 : Int) (a.2.2.2.2 : Int)) 110).isSome = false))
def dDo (s : Nat → Int) (a : hAct) : Nat → Int := if a.2.2.1 = 91 then sPwn (sPay s a.2.1 a.2.2.2.1 (s (360 + a.1))) a.1 (-2) 0 else if a.2.2.1 = 93 then sPwn (sPay s a.2.2.2.1 a.2.1 (a.2.2.2.2 : Int)) a.1 (a.2.2.2.1 : Int) (a.2.2.2.2 : Int) else sGo (sPay s a.2.2.2.1 a.2.1 (a.2.2.2.2 : Int)) a.1 (a.2.2.2.1 : Int)
def bFr (b : Nat) (m m' : gx_M) : Prop := ∀ c, (c < b ∨ b + 12 < c) → m' c = m c
theorem bFr_t {b : Nat} {m m1 m2 : gx_M} (h : bFr b m m1) (h' : bFr b m1 m2) : bFr b m m2 := fun c a => (h' c a).trans (h c a)
theorem bFr_u {b c k : Nat} {v : Int} {m : gx_M} (h : b ≤ c ∧ c ≤ b + 12) : bFr b m (gx_u m c k v) := fun c' a => gx_u_off (by omega)
section BR
variable {b : Nat} {s : Nat → Int} {m : gx_M}
theorem cY_iff (h : sBk b s m) {Y : Nat} (hY : Y < 40) : cYear b m (Y : Int) ↔ s (440 + Y) = 1 := by
  unfold cYear
  rw [h.1.2.1, hmask_test hY]
  constructor
  · rintro ⟨-, -, c⟩
    split at c
    · rename_i q
      rw [decide_eq_true_eq] at q
      exact q
    · exact absurd rfl c
  · intro c
    rw [if_pos (decide_eq_true c)]
    exact ⟨by omega, by omega, by decide⟩
theorem cP_iff (h : sBk b s m) {p : Int} : cPers b m p ↔ aPers s p := by
  unfold cPers aPers
  rw [h.1.1]
  have := hb01 (s 1128) p
  constructor
  · exact fun ⟨h1, h2, h3⟩ => ⟨h1, h2, by omega⟩
  · exact fun ⟨h1, h2, h3⟩ => ⟨h1, h2, by omega⟩
theorem aYr_iff {Y : Nat} (hY : Y < 40) : aYr s (Y : Int) ↔ s (440 + Y) = 1 := by
  unfold aYr
  have e : (440 + (Y : Int)).toNat = 440 + Y := by omega
  rw [e]
  exact ⟨fun h => h.2.2, fun h => ⟨by omega, by omega, h⟩⟩
theorem aPers_su {p v : Int} {k : Nat} (hk : k ≠ 1128) : aPers (su s k v) p ↔ aPers s p := by
  unfold aPers
  rw [su_ne (fun e => hk e.symm)]
theorem cl99_b {x : Int} (h : 0 ≤ x) : 0 ≤ cl99 x ∧ cl99 x ≤ 99999 := by
  unfold cl99
  split <;> omega
theorem sPwn_ok {y : Nat} {p z : Int} (hy : y < 40) (hp : p = -2 ∨ (0 ≤ p ∧ p ≤ 7)) (hz : 0 ≤ z ∧ z ≤ 99999) (h : sOK s) : sOK (sPwn s y p z) := sK_due hy hz (sK_lent hy hz (sK_hold hy hp h))
theorem sGo_ok {y : Nat} {p : Int} (hy : y < 40) (hp : 0 ≤ p ∧ p ≤ 7) (h : sOK s) : sOK (sGo s y p) := by
  have h1 : sOK (sPwn (su s (240 + y) p) y (-2) 0) := sPwn_ok hy (.inl rfl) (by decide) (sK_own hy hp h)
  have hm := h.many y hy
  unfold sGo
  split
  · exact h1
  · exact sK_many hy (by omega) (sK_hand (by omega) hp h1)
theorem aPers_bit {p : Nat} (h : aPers s (p : Int)) : ¬ gx_and (gx_shr (s 1128) (p : Int)) 1 = 0 := by
  have := h.2.2
  omega
theorem sPay_ok {p q : Nat} {z : Int} (hp : aPers s (p : Int)) (hq : aPers s (q : Int)) (hz : 0 ≤ z ∧ z ≤ s (1120 + p)) (h : sOK s) : sOK (sPay s p q z) := by
  have p8 : p < 8 := by have := hp.2.1; omega
  have q8 : q < 8 := by have := hq.2.1; omega
  have c1 := h.coin p p8
  have c2 := h.coin q q8
  refine sK_coin q8 (cl99_b (by omega)) (fun c => ?_) (sK_coin p8 (by omega) (fun c => absurd c (aPers_bit hp)) h)
  rw [su_ne (by omega)] at c
  exact absurd c (aPers_bit hq)
theorem dDo_ok {W : (Int → Int) → Int → Option Int} {a : hAct} (ha : aOK a) (h : sOK s) (hc : dCan W s a) : sOK (dDo s a) := by
  obtain ⟨a1, a2, a3, a4, a5, a6⟩ := ha
  obtain ⟨c1, c2, c3, c4, c5⟩ := hc
  unfold dDo
  rcases c5 with ⟨e, c6, c7⟩ | ⟨e, c6, c7, -⟩
  · rw [if_pos e]
    have := h.due a.1 a1
    exact sPwn_ok a1 (.inl rfl) (by decide) (sPay_ok c2 c3 (by omega) h)
  · rw [if_neg e]
    have hs := sPay_ok (z := (a.2.2.2.2 : Int)) c3 c2 (by omega) h
    split
    · exact sPwn_ok a1 (.inr (by omega)) (by omega) hs
    · exact sGo_ok a1 (by omega) hs
theorem sPay_y {p q : Nat} {z : Int} {k : Nat} (hk : k < 1120) : sPay s p q z k = s k := by
  unfold sPay
  rw [su_ne (by omega), su_ne (by omega)]
end BR
def cDf (b : Nat) (m m' : gx_M) : Prop := ∀ c k, (c < b ∨ b + 12 < c) → c ≠ 51 → ¬ (c = 44 ∧ 9 ≤ k ∧ k ≤ 11) → m' c k = m c k
theorem cDf_b {b : Nat} {m m' : gx_M} (h : bFr b m m') : cDf b m m' := fun c k a _ _ => congrFun (h c a) k
theorem cDf_f {b : Nat} {m m' : gx_M} (h : cLf m m') : cDf b m m' := fun c k _ a b => h c k a b
theorem cDf_t {b : Nat} {m m1 m2 : gx_M} (h : cDf b m m1) (h' : cDf b m1 m2) : cDf b m m2 := fun c k a d e => (h' c k a d e).trans (h c k a d e)
section AC5
variable {xs : List Int32} {n : Nat} {Q : hQ} {s : Nat → Int} {m : gx_M} {Y : Nat} {p z : Int}
theorem cd19 (hY : Y < 40) (hB : sBk 5 s m) (ht : s (440 + Y) = 1) (h : ∀ m', sBk 5 (sPwn s Y p z) m' → bFr 5 m m' → Q none m') : hxn xs n yp_m19 0 [(0, .inr (.inl 5)), (1, .inl (Y : Int)), (2, .inl p), (3, .inl z)] [] m Q := by
  refine hx_dn (hr19_0 (fun _ => ?_) (fun c => absurd ((cY_iff hB hY).mpr ht) c))
  rw [Int.toNat_natCast]
  exact h _ (sU_due (b := 5) hY (sU_lent (b := 5) hY (sU_hold (b := 5) hY hB))) (bFr_t (bFr_t (bFr_u (by decide)) (bFr_u (by decide))) (bFr_u (by decide)))
theorem cd18 (hY : Y < 40) (hB : sBk 5 s m) (ht : s (440 + Y) = 1) (h : ∀ m', sBk 5 (sPwn s Y (-2) 0) m' → bFr 5 m m' → Q none m') : hxn xs n yp_m18 0 [(0, .inr (.inl 5)), (1, .inl (Y : Int))] [] m Q :=
  hx_dn (hr18_0 (cd19 hY hB ht (fun m' h1 h2 => hx_dn (hr18_8 (h m' h1 h2)))))
theorem cd16 (hY : Y < 40) (hs : 0 ≤ s (400 + Y) ∧ s (400 + Y) ≤ 16) (hB : sBk 5 s m) (ht : s (440 + Y) = 1) (h : ∀ m', sBk 5 (sGo s Y p) m' → bFr 5 m m' → Q none m') : hxn xs n yp_m16 0 [(0, .inr (.inl 5)), (1, .inl (Y : Int)), (2, .inl p)] [] m Q := by
  refine hx_dn (hr16_0 (fun _ => ?_) (fun c => absurd ((cY_iff hB hY).mpr ht) c))
  rw [Int.toNat_natCast]
  refine cd18 hY (sU_own (b := 5) hY hB) (by rw [su_ne (by omega)]; exact ht) (fun m1 h1 f1 => ?_)
  have f0 : bFr 5 m m1 := bFr_t (bFr_u (by decide)) f1
  have em : m1 16 Y = s (400 + Y) := by
    rw [sB5_many h1 Y hY]
    unfold sPwn
    rw [su_ne (by omega), su_ne (by omega), su_ne (by omega), su_ne (by omega)]
  unfold sGo at h
  refine hx_dn (hr16_21 (fun c => ?_) (fun c1 c2 => ?_) (fun c1 c2 => ?_))
  · rw [Int.toNat_natCast, em] at c
    exact absurd c (by omega)
  · rw [Int.toNat_natCast, em] at c1 c2
    rw [if_neg (by omega)] at h
    rw [Int.toNat_natCast, em]
    have ei : (gx_w ((gx_w ((Y : Int) * 16)) + s (400 + Y))).toNat = 16 * Y + (s (400 + Y)).toNat := by
      rw [gx_w_id (x := (Y : Int) * 16) (by omega) (by omega), gx_w_id (by omega) (by omega)]
      omega
    rw [ei]
    exact h _ (sU_many (b := 5) hY (sU_hand (b := 5) (by omega) h1)) (bFr_t f0 (bFr_t (bFr_u (by decide)) (bFr_u (by decide))))
  · rw [Int.toNat_natCast, em] at c1 c2
    rw [if_pos (by omega)] at h
    exact h m1 h1 f0
theorem cd69 {P : Nat} (hP : aPers s (P : Int)) (hc : 0 ≤ s (1120 + P) ∧ s (1120 + P) ≤ 99999) (hz : 0 ≤ z ∧ z ≤ 99999) (hB : sBk 5 s m) (h : ∀ m', sBk 5 (su s (1120 + P) (cl99 (s (1120 + P) + z))) m' → bFr 5 m m' → Q none m') : hxn xs n yp_m69 0 [(0, .inr (.inl 5)), (1, .inl (P : Int)), (2, .inl z)] [] m Q := by
  have p8 : P < 8 := by have := hP.2.1; omega
  refine hx_dn (hr69_0 (fun _ => ?_) (fun c => absurd ((cP_iff hB).mpr hP) c))
  rw [Int.toNat_natCast, sB5_coin hB P p8, gx_w_id (by omega) (by omega)]
  exact h _ (sU_coin (b := 5) p8 hB) (bFr_u (by decide))
theorem cd68 {P R : Nat} (hP : aPers s (P : Int)) (hR : aPers s (R : Int)) (hne : P ≠ R) (hs : sOK s) (hz : 0 ≤ z ∧ z ≤ 99999) (hB : sBk 5 s m) (h : ∀ m', sBk 5 (sPay s P R z) m' → bFr 5 m m' → Q none m') : hxn xs n yp_m68 0 [(0, .inr (.inl 5)), (1, .inl (P : Int)), (2, .inl (R : Int)), (3, .inl z)] [] m Q := by
  have p8 : P < 8 := by have := hP.2.1; omega
  have r8 : R < 8 := by have := hR.2.1; omega
  have k1 := hs.coin P p8
  have k2 := hs.coin R r8
  refine hx_dn (hr68_0 (fun _ => ?_) (fun c => absurd ((cP_iff hB).mpr hP) c))
  rw [Int.toNat_natCast, sB5_coin hB P p8, gx_w_id (by omega) (by omega)]
  have e : su s (1120 + P) (s (1120 + P) - z) (1120 + R) = s (1120 + R) := su_ne (by omega)
  refine cd69 (s := su s (1120 + P) (s (1120 + P) - z)) ((aPers_su (by omega)).mpr hR) (by rw [e]; exact k2) hz (sU_coin (b := 5) p8 hB) (fun m1 h1 f1 => ?_)
  rw [e] at h1
  exact hx_dn (hr68_25 (h m1 h1 (bFr_t (bFr_u (by decide)) f1)))
variable {A : List hAct} {i : Nat} {a : hAct} {W : (Int → Int) → Int → Option Int}
theorem cd67 (hA : cAc A m) (hi : A[i]? = some a) (h16 : A.length ≤ 16) (ha : aOK a) (hs : sOK s) (hB : sBk 5 s m) (hc : dCan W s a) (h : ∀ m', sBk 5 (dDo s a) m' → bFr 5 m m' → Q none m') : hxn xs n yp_m67 0 [(0, .inr (.inl 61)), (1, .inr (.inl 5)), (2, .inl (i : Int))] [] m Q := by
  have hlt := lg_lt hi
  obtain ⟨v1, v2, v3, v4, v5⟩ := hA.2 i a hi
  obtain ⟨a1, a2, a3, a4, a5, a6⟩ := ha
  obtain ⟨c1, c2, c3, c4, c5⟩ := hc
  unfold dDo at h
  refine hx_dn (hr67_0 (fun c => absurd c (by omega)) (fun _ c => absurd c (by omega)) (fun _ _ _ e => ?_) (fun _ _ _ e => ?_) (fun _ _ c => ?_))
  · rw [Int.toNat_natCast, v3] at e
    rw [if_neg e] at h
    rcases c5 with ⟨e', -⟩ | ⟨-, c6, c7, -⟩
    · exact absurd e' e
    rw [Int.toNat_natCast, v1, v2, v4, v5]
    refine cd68 (z := (a.2.2.2.2 : Int)) c3 c2 (fun q => a4 q.symm) hs (by omega) hB (fun m1 h1 f1 => ?_)
    have w3 : m1 64 i = a.2.2.1 := by rw [f1 64 (by decide)]; exact v3
    have w5 : m1 66 i = (a.2.2.2.2 : Int) := by rw [f1 66 (by decide)]; exact v5
    have hm : 0 ≤ sPay s a.2.2.2.1 a.2.1 (a.2.2.2.2 : Int) (400 + a.1) ∧ sPay s a.2.2.2.1 a.2.1 (a.2.2.2.2 : Int) (400 + a.1) ≤ 16 := by
      rw [sPay_y (by omega)]
      exact hs.many a.1 a1
    have ht : sPay s a.2.2.2.1 a.2.1 (a.2.2.2.2 : Int) (440 + a.1) = 1 := by
      rw [sPay_y (by omega)]
      exact c1
    refine hx_dn (hr67_92 (fun e2 => ?_) (fun e2 => ?_))
    · rw [Int.toNat_natCast, w3] at e2
      rw [if_neg e2] at h
      exact cd16 a1 hm h1 ht (fun m2 h2 f2 => hx_dn (hr67_126 (h m2 h2 (bFr_t f1 f2))))
    · rw [Int.toNat_natCast, w3] at e2
      rw [if_pos e2] at h
      rw [Int.toNat_natCast, w5]
      exact cd19 a1 h1 ht (fun m2 h2 f2 => hx_dn (hr67_116 (h m2 h2 (bFr_t f1 f2))))
  · rw [Int.toNat_natCast, v3] at e
    rw [if_pos e] at h
    rcases c5 with ⟨-, c6, c7⟩ | ⟨e', -⟩
    case inr => exact absurd e e'
    rw [Int.toNat_natCast, v1, v2, v4, Int.toNat_natCast, sB5_due hB a.1 a1]
    have hd := hs.due a.1 a1
    refine cd68 c2 c3 a4 hs hd hB (fun m1 h1 f1 => ?_)
    have ht : sPay s a.2.1 a.2.2.2.1 (s (360 + a.1)) (440 + a.1) = 1 := by
      rw [sPay_y (by omega)]
      exact c1
    refine hx_dn (hr67_72 ?_)
    exact cd18 a1 h1 ht (fun m2 h2 f2 => hx_dn (hr67_77 (h m2 h2 (bFr_t f1 f2))))
  · rw [Int.toNat_natCast, v1] at c
    exact absurd ((cY_iff hB a1).mpr c1) c
theorem cd54 (hL : lawR xs W m) (hA : cAc A m) (hi : A[i]? = some a) (h16 : A.length ≤ 16) (ha : aOK a) (hs : sOK s) (hB : sBk 5 s m) (h1 : dCan W s a → ∀ m', cLf m m' → Q (some (.inl 1)) m') (h0 : ¬ dCan W s a → ∀ m', cLf m m' → Q (some (.inl 0)) m') : hxn xs n yp_m54 0 [(0, .inr (.inl 61)), (1, .inr (.inl 5)), (2, .inr (.inl 44)), (3, .inl (i : Int))] [] m Q := by
  have hlt := lg_lt hi
  have hn := hA.1
  obtain ⟨v1, v2, v3, v4, v5⟩ := hA.2 i a hi
  obtain ⟨a1, a2, a3, a4, a5, a6⟩ := ha
  have e1 := sB5_own hB a.1 a1
  have rr : cLf m m := fun _ _ _ _ => rfl
  have no : ∀ {P : Prop}, P → (dCan W s a → ¬ P) → Q (some (.inl 0)) m := fun hP hh => h0 (fun q => hh q hP) m rr
  refine hx_dn (hr54_0 (fun c => absurd c (by omega)) (fun _ c => absurd c (by omega)) ?_ ?_ ?_ ?_ ?_ ?_ ?_ ?_ ?_ ?_ (fun _ _ c => absurd c (by omega)))
  all_goals rw [Int.toNat_natCast, v1]
  · intro _ _ _ cy _ _ _ d1 d2
    rw [v3] at d1
    rw [Int.toNat_natCast, sB5_hold hB a.1 a1 ((cY_iff hB a1).mp cy)] at d2
    exact no d2 (fun q hd => q.2.2.2.2.elim (fun r => d1 r.1) (fun r => hd r.2.1))
  · intro _ _ _ cy _ _ _ d1 d2 d3
    rw [v3] at d1
    rw [v4, v5, Int.toNat_natCast, sB5_coin hB _ a3] at d3
    exact no d3 (fun q hd => q.2.2.2.2.elim (fun r => d1 r.1) (fun r => by have := r.2.2.1; omega))
  · intro _ _ _ cy c2 c3 c4 d1 d2 d3
    rw [v3] at d1
    have ht := (cY_iff hB a1).mp cy
    rw [v2] at c2
    rw [v4] at c3
    rw [v2, Int.toNat_natCast, e1] at c4
    rw [Int.toNat_natCast, sB5_hold hB a.1 a1 ht] at d2
    rw [v4, v5, Int.toNat_natCast, sB5_coin hB _ a3] at d3
    rw [v4, v5]
    refine cForb (.inl rfl) hL hs hB a1 (by omega) (fun m1 f1 => ?_)
    cases hW : (W (env1 s a.1 (a.2.2.2.1 : Int) (a.2.2.2.2 : Int)) 110).isSome with
    | false => exact hx_dn (hr54_174 (s0 := 0) (fun c => absurd rfl c) (fun _ => h1 ⟨ht, (cP_iff hB).mp c2, (cP_iff hB).mp c3, c4, .inr ⟨d1, d2, d3, hW⟩⟩ m1 f1))
    | true => exact hx_dn (hr54_174 (s0 := 1) (fun _ => h0 (fun q => q.2.2.2.2.elim (fun r => d1 r.1) (fun r => by have := r.2.2.2; rw [hW] at this; cases this)) m1 f1) (fun c => absurd c (by decide)))
  · intro _ _ _ cy _ _ _ d1 d2
    rw [v3] at d1
    rw [v4, Int.toNat_natCast, sB5_hold hB a.1 a1 ((cY_iff hB a1).mp cy)] at d2
    exact no d2 (fun q hd => q.2.2.2.2.elim (fun r => hd r.2.1) (fun r => r.1 d1))
  · intro _ _ _ cy _ _ _ d1 d2 d3
    rw [v3] at d1
    rw [v2, Int.toNat_natCast, Int.toNat_natCast, sB5_coin hB _ a2, sB5_due hB a.1 a1] at d3
    exact no d3 (fun q hd => q.2.2.2.2.elim (fun r => by have := r.2.2; omega) (fun r => r.1 d1))
  · intro _ _ _ cy c2 c3 c4 d1 d2 d3
    rw [v3] at d1
    have ht := (cY_iff hB a1).mp cy
    rw [v2] at c2
    rw [v4] at c3
    rw [v2, Int.toNat_natCast, e1] at c4
    rw [v4, Int.toNat_natCast, sB5_hold hB a.1 a1 ht] at d2
    rw [v2, Int.toNat_natCast, Int.toNat_natCast, sB5_coin hB _ a2, sB5_due hB a.1 a1] at d3
    exact h1 ⟨ht, (cP_iff hB).mp c2, (cP_iff hB).mp c3, c4, .inl ⟨d1, d2, d3⟩⟩ m rr
  · intro _ _ _ _ _ _ d
    rw [v2, Int.toNat_natCast, e1] at d
    exact no d (fun q hd => hd q.2.2.2.1)
  · intro _ _ _ _ _ d
    rw [v4] at d
    exact no d (fun q hd => hd ((cP_iff hB).mpr q.2.2.1))
  · intro _ _ _ _ d
    rw [v2] at d
    exact no d (fun q hd => hd ((cP_iff hB).mpr q.2.1))
  · intro _ _ _ d
    exact no d (fun q hd => hd ((cY_iff hB a1).mpr q.1))
theorem cAc_f5 {m' : gx_M} (h : cDf 5 m m') (hA : cAc A m) : cAc A m' := by
  refine ⟨by rw [h 61 5 (by decide) (by decide) (by omega)]; exact hA.1, fun i a hi => ?_⟩
  rw [h 62 i (by decide) (by decide) (by omega), h 63 i (by decide) (by decide) (by omega), h 64 i (by decide) (by decide) (by omega), h 65 i (by decide) (by decide) (by omega), h 66 i (by decide) (by decide) (by omega)]
  exact hA.2 i a hi
theorem cDf_L5 {m' : gx_M} (h : cDf 5 m m') : hAg hPL m m' := by
  intro q hq k h1 h2
  refine h q.1 k ?_ ?_ ?_
  · simp only [hPL, List.mem_cons, List.not_mem_nil, or_false] at hq
    rcases hq with rfl | rfl | rfl | rfl | rfl | rfl | rfl | rfl | rfl | rfl | rfl | rfl | rfl <;> decide
  · simp only [hPL, List.mem_cons, List.not_mem_nil, or_false] at hq
    rcases hq with rfl | rfl | rfl | rfl | rfl | rfl | rfl | rfl | rfl | rfl | rfl | rfl | rfl <;> decide
  · simp only [hPL, List.mem_cons, List.not_mem_nil, or_false] at hq
    rcases hq with rfl | rfl | rfl | rfl | rfl | rfl | rfl | rfl | rfl | rfl | rfl | rfl | rfl <;> dsimp only at h1 h2 ⊢ <;> omega
theorem cd53 (hL : lawR xs W m) (hA : cAc A m) (hi : A[i]? = some a) (h16 : A.length ≤ 16) (ha : aOK a) (hs : sOK s) (hB : sBk 5 s m) (h1 : dCan W s a → ∀ m', cDf 5 m m' → sBk 5 (dDo s a) m' → Q (some (.inl 1)) m') (h0 : ¬ dCan W s a → ∀ m', cDf 5 m m' → sBk 5 s m' → Q (some (.inl 0)) m') : hxn xs n yp_m53 0 [(0, .inr (.inl 61)), (1, .inr (.inl 5)), (2, .inr (.inl 44)), (3, .inl (i : Int))] [] m Q := by
  refine hx_dn (hr53_0 (cd54 hL hA hi h16 ha hs hB (fun hc m1 f1 => ?_) (fun hc m1 f1 => ?_)))
  · refine hx_dn (hr53_7 (s0 := 1) (fun _ => ?_) (fun c => absurd c (by decide)))
    exact cd67 (cAc_f5 (cDf_f f1) hA) hi h16 ha hs (cLf_b (.inl rfl) f1 hB) hc (fun m2 h2 f2 => hx_dn (hr53_18 (h1 hc m2 (cDf_t (cDf_f f1) (cDf_b f2)) h2)))
  · exact hx_dn (hr53_7 (s0 := 0) (fun c => absurd rfl c) (fun _ => h0 hc m1 (cDf_f f1) (cLf_b (.inl rfl) f1 hB)))
end AC5
section AC31
variable {xs : List Int32} {n : Nat} {Q : hQ} {s : Nat → Int} {m : gx_M} {Y : Nat} {p z : Int}
theorem cd31_19 (hY : Y < 40) (hB : sBk 31 s m) (ht : s (440 + Y) = 1) (h : ∀ m', sBk 31 (sPwn s Y p z) m' → bFr 31 m m' → Q none m') : hxn xs n yp_m19 0 [(0, .inr (.inl 31)), (1, .inl (Y : Int)), (2, .inl p), (3, .inl z)] [] m Q := by
  refine hx_dn (hr31_19_0 (fun _ => ?_) (fun c => absurd ((cY_iff hB hY).mpr ht) c))
  rw [Int.toNat_natCast]
  exact h _ (sU_due (b := 31) hY (sU_lent (b := 31) hY (sU_hold (b := 31) hY hB))) (bFr_t (bFr_t (bFr_u (by decide)) (bFr_u (by decide))) (bFr_u (by decide)))
theorem cd31_18 (hY : Y < 40) (hB : sBk 31 s m) (ht : s (440 + Y) = 1) (h : ∀ m', sBk 31 (sPwn s Y (-2) 0) m' → bFr 31 m m' → Q none m') : hxn xs n yp_m18 0 [(0, .inr (.inl 31)), (1, .inl (Y : Int))] [] m Q :=
  hx_dn (hr31_18_0 (cd31_19 hY hB ht (fun m' h1 h2 => hx_dn (hr31_18_8 (h m' h1 h2)))))
theorem cd31_16 (hY : Y < 40) (hs : 0 ≤ s (400 + Y) ∧ s (400 + Y) ≤ 16) (hB : sBk 31 s m) (ht : s (440 + Y) = 1) (h : ∀ m', sBk 31 (sGo s Y p) m' → bFr 31 m m' → Q none m') : hxn xs n yp_m16 0 [(0, .inr (.inl 31)), (1, .inl (Y : Int)), (2, .inl p)] [] m Q := by
  refine hx_dn (hr31_16_0 (fun _ => ?_) (fun c => absurd ((cY_iff hB hY).mpr ht) c))
  rw [Int.toNat_natCast]
  refine cd31_18 hY (sU_own (b := 31) hY hB) (by rw [su_ne (by omega)]; exact ht) (fun m1 h1 f1 => ?_)
  have f0 : bFr 31 m m1 := bFr_t (bFr_u (by decide)) f1
  have em : m1 42 Y = s (400 + Y) := by
    rw [sB31_many h1 Y hY]
    unfold sPwn
    rw [su_ne (by omega), su_ne (by omega), su_ne (by omega), su_ne (by omega)]
  unfold sGo at h
  refine hx_dn (hr31_16_21 (fun c => ?_) (fun c1 c2 => ?_) (fun c1 c2 => ?_))
  · rw [Int.toNat_natCast, em] at c
    exact absurd c (by omega)
  · rw [Int.toNat_natCast, em] at c1 c2
    rw [if_neg (by omega)] at h
    rw [Int.toNat_natCast, em]
    have ei : (gx_w ((gx_w ((Y : Int) * 16)) + s (400 + Y))).toNat = 16 * Y + (s (400 + Y)).toNat := by
      rw [gx_w_id (x := (Y : Int) * 16) (by omega) (by omega), gx_w_id (by omega) (by omega)]
      omega
    rw [ei]
    exact h _ (sU_many (b := 31) hY (sU_hand (b := 31) (by omega) h1)) (bFr_t f0 (bFr_t (bFr_u (by decide)) (bFr_u (by decide))))
  · rw [Int.toNat_natCast, em] at c1 c2
    rw [if_pos (by omega)] at h
    exact h m1 h1 f0
theorem cd31_69 {P : Nat} (hP : aPers s (P : Int)) (hc : 0 ≤ s (1120 + P) ∧ s (1120 + P) ≤ 99999) (hz : 0 ≤ z ∧ z ≤ 99999) (hB : sBk 31 s m) (h : ∀ m', sBk 31 (su s (1120 + P) (cl99 (s (1120 + P) + z))) m' → bFr 31 m m' → Q none m') : hxn xs n yp_m69 0 [(0, .inr (.inl 31)), (1, .inl (P : Int)), (2, .inl z)] [] m Q := by
  have p8 : P < 8 := by have := hP.2.1; omega
  refine hx_dn (hr31_69_0 (fun _ => ?_) (fun c => absurd ((cP_iff hB).mpr hP) c))
  rw [Int.toNat_natCast, sB31_coin hB P p8, gx_w_id (by omega) (by omega)]
  exact h _ (sU_coin (b := 31) p8 hB) (bFr_u (by decide))
theorem cd31_68 {P R : Nat} (hP : aPers s (P : Int)) (hR : aPers s (R : Int)) (hne : P ≠ R) (hs : sOK s) (hz : 0 ≤ z ∧ z ≤ 99999) (hB : sBk 31 s m) (h : ∀ m', sBk 31 (sPay s P R z) m' → bFr 31 m m' → Q none m') : hxn xs n yp_m68 0 [(0, .inr (.inl 31)), (1, .inl (P : Int)), (2, .inl (R : Int)), (3, .inl z)] [] m Q := by
  have p8 : P < 8 := by have := hP.2.1; omega
  have r8 : R < 8 := by have := hR.2.1; omega
  have k1 := hs.coin P p8
  have k2 := hs.coin R r8
  refine hx_dn (hr31_68_0 (fun _ => ?_) (fun c => absurd ((cP_iff hB).mpr hP) c))
  rw [Int.toNat_natCast, sB31_coin hB P p8, gx_w_id (by omega) (by omega)]
  have e : su s (1120 + P) (s (1120 + P) - z) (1120 + R) = s (1120 + R) := su_ne (by omega)
  refine cd31_69 (s := su s (1120 + P) (s (1120 + P) - z)) ((aPers_su (by omega)).mpr hR) (by rw [e]; exact k2) hz (sU_coin (b := 31) p8 hB) (fun m1 h1 f1 => ?_)
  rw [e] at h1
  exact hx_dn (hr31_68_25 (h m1 h1 (bFr_t (bFr_u (by decide)) f1)))
variable {A : List hAct} {i : Nat} {a : hAct} {W : (Int → Int) → Int → Option Int}
theorem cd31_67 (hA : cAc A m) (hi : A[i]? = some a) (h16 : A.length ≤ 16) (ha : aOK a) (hs : sOK s) (hB : sBk 31 s m) (hc : dCan W s a) (h : ∀ m', sBk 31 (dDo s a) m' → bFr 31 m m' → Q none m') : hxn xs n yp_m67 0 [(0, .inr (.inl 61)), (1, .inr (.inl 31)), (2, .inl (i : Int))] [] m Q := by
  have hlt := lg_lt hi
  obtain ⟨v1, v2, v3, v4, v5⟩ := hA.2 i a hi
  obtain ⟨a1, a2, a3, a4, a5, a6⟩ := ha
  obtain ⟨c1, c2, c3, c4, c5⟩ := hc
  unfold dDo at h
  refine hx_dn (hr31_67_0 (fun c => absurd c (by omega)) (fun _ c => absurd c (by omega)) (fun _ _ _ e => ?_) (fun _ _ _ e => ?_) (fun _ _ c => ?_))
  · rw [Int.toNat_natCast, v3] at e
    rw [if_neg e] at h
    rcases c5 with ⟨e', -⟩ | ⟨-, c6, c7, -⟩
    · exact absurd e' e
    rw [Int.toNat_natCast, v1, v2, v4, v5]
    refine cd31_68 (z := (a.2.2.2.2 : Int)) c3 c2 (fun q => a4 q.symm) hs (by omega) hB (fun m1 h1 f1 => ?_)
    have w3 : m1 64 i = a.2.2.1 := by rw [f1 64 (by decide)]; exact v3
    have w5 : m1 66 i = (a.2.2.2.2 : Int) := by rw [f1 66 (by decide)]; exact v5
    have hm : 0 ≤ sPay s a.2.2.2.1 a.2.1 (a.2.2.2.2 : Int) (400 + a.1) ∧ sPay s a.2.2.2.1 a.2.1 (a.2.2.2.2 : Int) (400 + a.1) ≤ 16 := by
      rw [sPay_y (by omega)]
      exact hs.many a.1 a1
    have ht : sPay s a.2.2.2.1 a.2.1 (a.2.2.2.2 : Int) (440 + a.1) = 1 := by
      rw [sPay_y (by omega)]
      exact c1
    refine hx_dn (hr31_67_92 (fun e2 => ?_) (fun e2 => ?_))
    · rw [Int.toNat_natCast, w3] at e2
      rw [if_neg e2] at h
      exact cd31_16 a1 hm h1 ht (fun m2 h2 f2 => hx_dn (hr31_67_126 (h m2 h2 (bFr_t f1 f2))))
    · rw [Int.toNat_natCast, w3] at e2
      rw [if_pos e2] at h
      rw [Int.toNat_natCast, w5]
      exact cd31_19 a1 h1 ht (fun m2 h2 f2 => hx_dn (hr31_67_116 (h m2 h2 (bFr_t f1 f2))))
  · rw [Int.toNat_natCast, v3] at e
    rw [if_pos e] at h
    rcases c5 with ⟨-, c6, c7⟩ | ⟨e', -⟩
    case inr => exact absurd e e'
    rw [Int.toNat_natCast, v1, v2, v4, Int.toNat_natCast, sB31_due hB a.1 a1]
    have hd := hs.due a.1 a1
    refine cd31_68 c2 c3 a4 hs hd hB (fun m1 h1 f1 => ?_)
    have ht : sPay s a.2.1 a.2.2.2.1 (s (360 + a.1)) (440 + a.1) = 1 := by
      rw [sPay_y (by omega)]
      exact c1
    refine hx_dn (hr31_67_72 ?_)
    exact cd31_18 a1 h1 ht (fun m2 h2 f2 => hx_dn (hr31_67_77 (h m2 h2 (bFr_t f1 f2))))
  · rw [Int.toNat_natCast, v1] at c
    exact absurd ((cY_iff hB a1).mpr c1) c
theorem cd31_54 (hL : lawR xs W m) (hA : cAc A m) (hi : A[i]? = some a) (h16 : A.length ≤ 16) (ha : aOK a) (hs : sOK s) (hB : sBk 31 s m) (h1 : dCan W s a → ∀ m', cLf m m' → Q (some (.inl 1)) m') (h0 : ¬ dCan W s a → ∀ m', cLf m m' → Q (some (.inl 0)) m') : hxn xs n yp_m54 0 [(0, .inr (.inl 61)), (1, .inr (.inl 31)), (2, .inr (.inl 44)), (3, .inl (i : Int))] [] m Q := by
  have hlt := lg_lt hi
  have hn := hA.1
  obtain ⟨v1, v2, v3, v4, v5⟩ := hA.2 i a hi
  obtain ⟨a1, a2, a3, a4, a5, a6⟩ := ha
  have e1 := sB31_own hB a.1 a1
  have rr : cLf m m := fun _ _ _ _ => rfl
  have no : ∀ {P : Prop}, P → (dCan W s a → ¬ P) → Q (some (.inl 0)) m := fun hP hh => h0 (fun q => hh q hP) m rr
  refine hx_dn (hr31_54_0 (fun c => absurd c (by omega)) (fun _ c => absurd c (by omega)) ?_ ?_ ?_ ?_ ?_ ?_ ?_ ?_ ?_ ?_ (fun _ _ c => absurd c (by omega)))
  all_goals rw [Int.toNat_natCast, v1]
  · intro _ _ _ cy _ _ _ d1 d2
    rw [v3] at d1
    rw [Int.toNat_natCast, sB31_hold hB a.1 a1 ((cY_iff hB a1).mp cy)] at d2
    exact no d2 (fun q hd => q.2.2.2.2.elim (fun r => d1 r.1) (fun r => hd r.2.1))
  · intro _ _ _ cy _ _ _ d1 d2 d3
    rw [v3] at d1
    rw [v4, v5, Int.toNat_natCast, sB31_coin hB _ a3] at d3
    exact no d3 (fun q hd => q.2.2.2.2.elim (fun r => d1 r.1) (fun r => by have := r.2.2.1; omega))
  · intro _ _ _ cy c2 c3 c4 d1 d2 d3
    rw [v3] at d1
    have ht := (cY_iff hB a1).mp cy
    rw [v2] at c2
    rw [v4] at c3
    rw [v2, Int.toNat_natCast, e1] at c4
    rw [Int.toNat_natCast, sB31_hold hB a.1 a1 ht] at d2
    rw [v4, v5, Int.toNat_natCast, sB31_coin hB _ a3] at d3
    rw [v4, v5]
    refine cForb (.inr rfl) hL hs hB a1 (by omega) (fun m1 f1 => ?_)
    cases hW : (W (env1 s a.1 (a.2.2.2.1 : Int) (a.2.2.2.2 : Int)) 110).isSome with
    | false => exact hx_dn (hr31_54_174 (s0 := 0) (fun c => absurd rfl c) (fun _ => h1 ⟨ht, (cP_iff hB).mp c2, (cP_iff hB).mp c3, c4, .inr ⟨d1, d2, d3, hW⟩⟩ m1 f1))
    | true => exact hx_dn (hr31_54_174 (s0 := 1) (fun _ => h0 (fun q => q.2.2.2.2.elim (fun r => d1 r.1) (fun r => by have := r.2.2.2; rw [hW] at this; cases this)) m1 f1) (fun c => absurd c (by decide)))
  · intro _ _ _ cy _ _ _ d1 d2
    rw [v3] at d1
    rw [v4, Int.toNat_natCast, sB31_hold hB a.1 a1 ((cY_iff hB a1).mp cy)] at d2
    exact no d2 (fun q hd => q.2.2.2.2.elim (fun r => hd r.2.1) (fun r => r.1 d1))
  · intro _ _ _ cy _ _ _ d1 d2 d3
    rw [v3] at d1
    rw [v2, Int.toNat_natCast, Int.toNat_natCast, sB31_coin hB _ a2, sB31_due hB a.1 a1] at d3
    exact no d3 (fun q hd => q.2.2.2.2.elim (fun r => by have := r.2.2; omega) (fun r => r.1 d1))
  · intro _ _ _ cy c2 c3 c4 d1 d2 d3
    rw [v3] at d1
    have ht := (cY_iff hB a1).mp cy
    rw [v2] at c2
    rw [v4] at c3
    rw [v2, Int.toNat_natCast, e1] at c4
    rw [v4, Int.toNat_natCast, sB31_hold hB a.1 a1 ht] at d2
    rw [v2, Int.toNat_natCast, Int.toNat_natCast, sB31_coin hB _ a2, sB31_due hB a.1 a1] at d3
    exact h1 ⟨ht, (cP_iff hB).mp c2, (cP_iff hB).mp c3, c4, .inl ⟨d1, d2, d3⟩⟩ m rr
  · intro _ _ _ _ _ _ d
    rw [v2, Int.toNat_natCast, e1] at d
    exact no d (fun q hd => hd q.2.2.2.1)
  · intro _ _ _ _ _ d
    rw [v4] at d
    exact no d (fun q hd => hd ((cP_iff hB).mpr q.2.2.1))
  · intro _ _ _ _ d
    rw [v2] at d
    exact no d (fun q hd => hd ((cP_iff hB).mpr q.2.1))
  · intro _ _ _ d
    exact no d (fun q hd => hd ((cY_iff hB a1).mpr q.1))
theorem cAc_f31 {m' : gx_M} (h : cDf 31 m m') (hA : cAc A m) : cAc A m' := by
  refine ⟨by rw [h 61 5 (by decide) (by decide) (by omega)]; exact hA.1, fun i a hi => ?_⟩
  rw [h 62 i (by decide) (by decide) (by omega), h 63 i (by decide) (by decide) (by omega), h 64 i (by decide) (by decide) (by omega), h 65 i (by decide) (by decide) (by omega), h 66 i (by decide) (by decide) (by omega)]
  exact hA.2 i a hi
theorem cDf_L31 {m' : gx_M} (h : cDf 31 m m') : hAg hPL m m' := by
  intro q hq k h1 h2
  refine h q.1 k ?_ ?_ ?_
  · simp only [hPL, List.mem_cons, List.not_mem_nil, or_false] at hq
    rcases hq with rfl | rfl | rfl | rfl | rfl | rfl | rfl | rfl | rfl | rfl | rfl | rfl | rfl <;> decide
  · simp only [hPL, List.mem_cons, List.not_mem_nil, or_false] at hq
    rcases hq with rfl | rfl | rfl | rfl | rfl | rfl | rfl | rfl | rfl | rfl | rfl | rfl | rfl <;> decide
  · simp only [hPL, List.mem_cons, List.not_mem_nil, or_false] at hq
    rcases hq with rfl | rfl | rfl | rfl | rfl | rfl | rfl | rfl | rfl | rfl | rfl | rfl | rfl <;> dsimp only at h1 h2 ⊢ <;> omega
theorem cd31_53 (hL : lawR xs W m) (hA : cAc A m) (hi : A[i]? = some a) (h16 : A.length ≤ 16) (ha : aOK a) (hs : sOK s) (hB : sBk 31 s m) (h1 : dCan W s a → ∀ m', cDf 31 m m' → sBk 31 (dDo s a) m' → Q (some (.inl 1)) m') (h0 : ¬ dCan W s a → ∀ m', cDf 31 m m' → sBk 31 s m' → Q (some (.inl 0)) m') : hxn xs n yp_m53 0 [(0, .inr (.inl 61)), (1, .inr (.inl 31)), (2, .inr (.inl 44)), (3, .inl (i : Int))] [] m Q := by
  refine hx_dn (hr31_53_0 (cd31_54 hL hA hi h16 ha hs hB (fun hc m1 f1 => ?_) (fun hc m1 f1 => ?_)))
  · refine hx_dn (hr31_53_7 (s0 := 1) (fun _ => ?_) (fun c => absurd c (by decide)))
    exact cd31_67 (cAc_f31 (cDf_f f1) hA) hi h16 ha hs (cLf_b (.inr rfl) f1 hB) hc (fun m2 h2 f2 => hx_dn (hr31_53_18 (h1 hc m2 (cDf_t (cDf_f f1) (cDf_b f2)) h2)))
  · exact hx_dn (hr31_53_7 (s0 := 0) (fun c => absurd rfl c) (fun _ => h0 hc m1 (cDf_f f1) (cLf_b (.inr rfl) f1 hB)))
end AC31
end
section
/-! acts, done by the reference -/
def rDf (m m' : gx_M) : Prop := ∀ c, c ≠ 87 → c ≠ 102 → c ≠ 103 → m' c = m c
theorem rDf_t {m m1 m2 : gx_M} (h : rDf m m1) (h' : rDf m1 m2) : rDf m m2 := fun c a b d => (h' c a b d).trans (h c a b d)
theorem rDf_u {m : gx_M} {k : Nat} {v : Int} : rDf m (gx_u m 87 k v) := fun c a _ _ => gx_u_off a
theorem rDf_r {m : gx_M} : rDf m m := fun _ _ _ _ => rfl
theorem rDf_L {m m' : gx_M} (h : rDf m m') : hAg hPL m m' := by
  intro q hq k h1 h2
  have e : m' q.1 = m q.1 := by
    simp only [hPL, List.mem_cons, List.not_mem_nil, or_false] at hq
    rcases hq with rfl | rfl | rfl | rfl | rfl | rfl | rfl | rfl | rfl | rfl | rfl | rfl | rfl <;> exact h _ (by decide) (by decide) (by decide)
  rw [e]
theorem rAc_f {A : List hAct} {m m' : gx_M} (h : rDf m m') (hA : rAc A m) : rAc A m' := by
  unfold rAc
  rw [h 86 (by decide) (by decide) (by decide), h 104 (by decide) (by decide) (by decide), h 105 (by decide) (by decide) (by decide), h 106 (by decide) (by decide) (by decide), h 107 (by decide) (by decide) (by decide), h 108 (by decide) (by decide) (by decide)]
  exact hA
theorem su_sw {s : Nat → Int} {i j : Nat} {v w : Int} (h : i ≠ j) : su (su s i v) j w = su (su s j w) i v := by
  funext k
  unfold su
  by_cases e : k = j
  · subst e
    rw [if_pos rfl, if_neg (fun q => h q.symm), if_pos rfl]
  · rw [if_neg e, if_neg e]
section RD
variable {xs : List Int32} {n : Nat} {Q : hQ} {m : gx_M} {Y : Nat} {p z : Int}
theorem wz {k Y : Nat} (hk : k < 2000) (hY : Y < 1000) : (gx_w ((k : Int) + (Y : Int))).toNat = k + Y := by
  rw [gx_w_id (by omega) (by omega)]
  omega
theorem w240 (hY : Y < 40) : (gx_w (240 + (Y : Int))).toNat = 240 + Y := wz (by decide) (by omega)
theorem w280 (hY : Y < 40) : (gx_w (280 + (Y : Int))).toNat = 280 + Y := wz (by decide) (by omega)
theorem w320 (hY : Y < 40) : (gx_w (320 + (Y : Int))).toNat = 320 + Y := wz (by decide) (by omega)
theorem w360 (hY : Y < 40) : (gx_w (360 + (Y : Int))).toNat = 360 + Y := wz (by decide) (by omega)
theorem w400 (hY : Y < 40) : (gx_w (400 + (Y : Int))).toNat = 400 + Y := wz (by decide) (by omega)
theorem w440 (hY : Y < 40) : (gx_w (440 + (Y : Int))).toNat = 440 + Y := wz (by decide) (by omega)
theorem w1120 (hY : Y < 8) : (gx_w (1120 + (Y : Int))).toNat = 1120 + Y := wz (by decide) (by omega)
theorem r210 (hY : Y < 40) (hs : 0 ≤ m 87 (400 + Y) ∧ m 87 (400 + Y) ≤ 16) (h : ∀ m', m' 87 = sGo (m 87) Y p → rDf m m' → Q none m') : hxn xs n yp_m210 0 [(0, .inr (.inl 86)), (1, .inl (Y : Int)), (2, .inl p)] [] m Q := by
  have e0 : gx_u (gx_u (gx_u (gx_u m 87 (240 + Y) p) 87 (280 + Y) (-2)) 87 (320 + Y) 0) 87 (360 + Y) 0 87 = sPwn (su (m 87) (240 + Y) p) Y (-2) 0 := by
    rw [gx_su, gx_su, gx_su, gx_su]
    rfl
  have em : gx_u (gx_u (gx_u (gx_u m 87 (240 + Y) p) 87 (280 + Y) (-2)) 87 (320 + Y) 0) 87 (360 + Y) 0 87 (400 + Y) = m 87 (400 + Y) := by
    rw [gx_u_ne (by omega), gx_u_ne (by omega), gx_u_ne (by omega), gx_u_ne (by omega)]
  have f0 : rDf m (gx_u (gx_u (gx_u (gx_u m 87 (240 + Y) p) 87 (280 + Y) (-2)) 87 (320 + Y) 0) 87 (360 + Y) 0) := rDf_t (rDf_t (rDf_t rDf_u rDf_u) rDf_u) rDf_u
  refine hx_dn (hr210_0 (fun c => ?_) (fun c => ?_))
  · rw [w240 hY, w280 hY, w320 hY, w360 hY, w400 hY, em] at c
    rw [w240 hY, w280 hY, w320 hY, w360 hY, w400 hY]
    generalize gx_u (gx_u (gx_u (gx_u m 87 (240 + Y) p) 87 (280 + Y) (-2)) 87 (320 + Y) 0) 87 (360 + Y) 0 = M at e0 em f0 ⊢
    rw [em]
    have ei : (gx_w ((gx_w (480 + (gx_w (16 * (Y : Int))))) + m 87 (400 + Y))).toNat = 480 + (16 * Y + (m 87 (400 + Y)).toNat) := by
      rw [gx_w_id (x := 16 * (Y : Int)) (by omega) (by omega), gx_w_id (x := 480 + 16 * (Y : Int)) (by omega) (by omega), gx_w_id (by omega) (by omega)]
      omega
    rw [ei]
    have em2 : gx_u M 87 (480 + (16 * Y + (m 87 (400 + Y)).toNat)) p 87 (400 + Y) = m 87 (400 + Y) := by
      rw [gx_u_ne (by omega)]
      exact em
    rw [em2, gx_w_id (by omega) (by omega)]
    refine h _ ?_ (rDf_t f0 (rDf_t rDf_u rDf_u))
    rw [gx_su, gx_su, e0]
    unfold sGo
    rw [if_neg c]
  · rw [w240 hY, w280 hY, w320 hY, w360 hY, w400 hY, em] at c
    rw [w240 hY, w280 hY, w320 hY, w360 hY]
    refine h _ ?_ f0
    rw [e0]
    unfold sGo
    rw [if_pos c]
theorem r198 {P : Nat} (hP : P < 8) (hc : 0 ≤ m 87 (1120 + P) ∧ m 87 (1120 + P) ≤ 99999) (hz : 0 ≤ z ∧ z ≤ 99999) (h : Q (some (.inl (cl99 (m 87 (1120 + P) + z)))) m) : hxn xs n yp_m198 0 [(0, .inr (.inl 86)), (1, .inl (P : Int)), (2, .inl z)] [] m Q := by
  refine hx_dn (hr198_0 ?_)
  rw [w1120 hP, gx_w_id (by omega) (by omega)]
  unfold cl99 at h
  refine hx_dn (hr199_0 (fun c => ?_) (fun c => ?_))
  · by_cases e : m 87 (1120 + P) + z < 99999
    · rw [if_pos e] at h
      exact hx_dn (hr198_17 h)
    · rw [if_neg e] at h
      have : m 87 (1120 + P) + z = 99999 := by omega
      rw [this]
      exact hx_dn (hr198_17 h)
  · rw [if_neg (by omega)] at h
    exact hx_dn (hr198_17 h)
/-- what one pays another, as the reference does it -/
theorem rpay {P R : Nat} {p1 r1 : Int} (hP : P < 8) (hR : R < 8) (hne : P ≠ R) (e1 : p1 = m 87 (1120 + P) - z) (e2 : r1 = cl99 (m 87 (1120 + R) + z)) : (gx_u (gx_u m 87 (1120 + P) p1) 87 (1120 + R) r1) 87 = sPay (m 87) P R z := by
  rw [gx_su, gx_su, e1, e2]
  rfl
variable {A : List hAct} {i : Nat} {a : hAct} {W : (Int → Int) → Int → Option Int}
theorem r197 (hs : sOK (m 87)) (hY : Y < 40) {P R : Nat} (hP : aPers (m 87) (P : Int)) (hR : aPers (m 87) (R : Int)) (hne : P ≠ R) (h1 : m 87 (280 + Y) = (R : Int) → m 87 (360 + Y) ≤ m 87 (1120 + P) → ∀ m', m' 87 = sPwn (sPay (m 87) P R (m 87 (360 + Y))) Y (-2) 0 → rDf m m' → Q (some (.inl 1)) m') (h0 : ¬ (m 87 (280 + Y) = (R : Int) ∧ m 87 (360 + Y) ≤ m 87 (1120 + P)) → Q (some (.inl 0)) m) : hxn xs n yp_m197 0 [(0, .inr (.inl 86)), (1, .inl (Y : Int)), (2, .inl (P : Int)), (3, .inl (R : Int))] [] m Q := by
  have p8 : P < 8 := by have := hP.2.1; omega
  have r8 : R < 8 := by have := hR.2.1; omega
  have k1 := hs.coin P p8
  have k2 := hs.coin R r8
  have kd := hs.due Y hY
  refine hx_dn (hr197_0 (fun c => ?_) (fun c d => ?_) (fun c d => ?_))
  · rw [w280 hY] at c
    exact h0 (fun q => c q.1)
  · rw [w280 hY] at c
    rw [w360 hY, w1120 p8] at d
    rw [w360 hY, w1120 p8]
    have w1 : gx_w (m 87 (1120 + P) - m 87 (360 + Y)) = m 87 (1120 + P) - m 87 (360 + Y) := gx_w_id (by omega) (by omega)
    have w2 : gx_u m 87 (1120 + P) (m 87 (1120 + P) - m 87 (360 + Y)) 87 (360 + Y) = m 87 (360 + Y) := gx_u_ne (by omega)
    have w3 : gx_u m 87 (1120 + P) (m 87 (1120 + P) - m 87 (360 + Y)) 87 (1120 + R) = m 87 (1120 + R) := gx_u_ne (by omega)
    rw [w1, w2]
    refine r198 r8 (by rw [w3]; exact k2) kd ?_
    rw [w3]
    refine hx_dn (hr197_94 ?_)
    rw [w1120 r8, w280 hY, w320 hY, w360 hY]
    refine h1 c d _ ?_ (rDf_t (rDf_t (rDf_t (rDf_t rDf_u rDf_u) rDf_u) rDf_u) rDf_u)
    have e0 := rpay (m := m) (P := P) (R := R) (z := m 87 (360 + Y)) p8 r8 hne rfl rfl
    rw [gx_su, gx_su, gx_su, e0]
    rfl
  · rw [w360 hY, w1120 p8] at d
    exact h0 (fun q => by have := q.2; omega)
theorem r195 (hL : lawR xs W m) (hA : rAc A m) (hi : A[i]? = some a) (h16 : A.length ≤ 16) (ha : aOK a) (hs : sOK (m 87)) (h1 : dCan W (m 87) a → ∀ m', rDf m m' → m' 87 = dDo (m 87) a → Q (some (.inl 1)) m') (h0 : ¬ dCan W (m 87) a → ∀ m', rDf m m' → m' 87 = m 87 → Q (some (.inl 0)) m') : hxn xs n yp_m195 0 [(0, .inr (.inl 86)), (1, .inl (i : Int))] [] m Q := by
  obtain ⟨v1, v2, v3, v4, v5⟩ := hA.2 i a hi
  obtain ⟨a1, a2, a3, a4, a5, a6⟩ := ha
  have no : ∀ {P : Prop}, P → (dCan W (m 87) a → ¬ P) → Q (some (.inl 0)) m := fun hP hh => h0 (fun q => hh q hP) m rDf_r rfl
  refine hx_dn (hr195_0 ?_ ?_ ?_ ?_ ?_ ?_)
  all_goals rw [Int.toNat_natCast, v1]
  · intro cy c2 c3 c4 d1
    rw [v2] at c2
    rw [v4] at c3
    rw [v2, w240 a1] at c4
    rw [v3] at d1
    rw [v2, v4, v5]
    have ht := (aYr_iff a1).mp cy
    have hh := hs.hold a.1 a1
    refine hx_dn (hr200_0 (fun e => ?_) (fun e => ?_))
    · rw [w280 a1] at e
      refine hx_dn (hr195_96 (s0 := 0) (fun c => absurd rfl c) (fun _ => ?_))
      refine rBar hL hs a1 (by omega) (fun m1 f1 => ?_)
      have e87 : m1 87 = m 87 := f1 87 (by decide) (by decide)
      have f1' : rDf m m1 := fun c _ b d => f1 c b d
      cases hW : (W (env1 (m 87) a.1 (a.2.2.2.1 : Int) (a.2.2.2.2 : Int)) 110).isSome with
      | true => exact hx_dn (hr195_108 (s0 := 1) (fun _ => h0 (fun q => q.2.2.2.2.elim (fun r => d1 r.1) (fun r => by have := r.2.2.2; rw [hW] at this; cases this)) m1 f1' e87) (fun c => absurd c (by decide)) (fun c => absurd c (by decide)))
      | false =>
        refine hx_dn (hr195_108 (s0 := 0) (fun c => absurd rfl c) (fun _ d => ?_) (fun _ d => ?_))
        · rw [w1120 a3, e87] at d
          have hc : dCan W (m 87) a := ⟨ht, c2, c3, c4, .inr ⟨d1, by omega, d, hW⟩⟩
          have k1 := hs.coin _ a3
          have k2 := hs.coin _ a2
          rw [w1120 a3, e87, gx_w_id (by omega) (by omega)]
          have w3 : gx_u m1 87 (1120 + a.2.2.2.1) (m 87 (1120 + a.2.2.2.1) - (a.2.2.2.2 : Int)) 87 (1120 + a.2.1) = m 87 (1120 + a.2.1) := by
            rw [gx_u_ne (by omega), e87]
          refine r198 a2 (by rw [w3]; exact k2) (by omega) ?_
          rw [w3]
          have e0 := rpay (m := m1) (P := a.2.2.2.1) (R := a.2.1) (z := (a.2.2.2.2 : Int)) a3 a2 (fun q => a4 q.symm) rfl rfl
          rw [e87] at e0
          have eD := h1 hc
          unfold dDo at eD
          rw [if_neg d1] at eD
          have w6 : ∀ M : gx_M, (∀ c, c ≠ 87 → M c = m1 c) → M 106 i = a.2.2.1 := fun M hM => by
            rw [hM 106 (by decide), f1 106 (by decide) (by decide)]
            exact v3
          have fM : rDf m (gx_u (gx_u m1 87 (1120 + a.2.2.2.1) (m 87 (1120 + a.2.2.2.1) - (a.2.2.2.2 : Int))) 87 (1120 + a.2.1) (cl99 (m 87 (1120 + a.2.1) + (a.2.2.2.2 : Int)))) := rDf_t f1' (rDf_t rDf_u rDf_u)
          refine hx_dn (hr195_170 (fun e2 => ?_) (fun e2 => ?_))
          · rw [Int.toNat_natCast, w6 _ (fun c hc => gx_u_off hc)] at e2
            rw [if_pos e2] at eD
            rw [w1120 a2, w280 a1, w320 a1, w360 a1]
            refine eD _ (rDf_t (rDf_t (rDf_t fM rDf_u) rDf_u) rDf_u) ?_
            rw [gx_su, gx_su, gx_su, e0]
            rfl
          · rw [Int.toNat_natCast, w6 _ (fun c hc => gx_u_off hc)] at e2
            rw [if_neg e2] at eD
            rw [w1120 a2]
            refine r210 a1 ?_ (fun m2 g1 g2 => ?_)
            · rw [e0, sPay_y (by omega)]
              exact hs.many _ a1
            · rw [e0] at g1
              exact hx_dn (hr195_189 (eD m2 (rDf_t fM g2) g1))
        · rw [w1120 a3, e87] at d
          exact h0 (fun q => q.2.2.2.2.elim (fun r => d1 r.1) (fun r => by have := r.2.2.1; omega)) m1 f1' e87
    · rw [w280 a1] at e
      refine hx_dn (hr195_96 (s0 := 1) (fun _ => ?_) (fun c => absurd c (by decide)))
      exact no e (fun q hd => q.2.2.2.2.elim (fun r => d1 r.1) (fun r => by have := r.2.1; omega))
  · intro cy c2 c3 c4 d1
    rw [v2] at c2
    rw [v4] at c3
    rw [v2, w240 a1] at c4
    rw [v3] at d1
    rw [v2, v4]
    have ht := (aYr_iff a1).mp cy
    refine r197 hs a1 c2 c3 a4 (fun e1 e2 m1 g1 g2 => ?_) (fun e1 => ?_)
    · have hc : dCan W (m 87) a := ⟨ht, c2, c3, c4, .inl ⟨d1, e1, e2⟩⟩
      refine hx_dn (hr195_90 (h1 hc m1 g2 ?_))
      unfold dDo
      rw [if_pos d1]
      exact g1
    · exact hx_dn (hr195_90 (no e1 (fun q hd => hd (q.2.2.2.2.elim (fun r => ⟨r.2.1, r.2.2⟩) (fun r => absurd d1 r.1)))))
  · intro _ _ _ d
    rw [v2, w240 a1] at d
    exact no d (fun q hd => hd q.2.2.2.1)
  · intro _ _ d
    rw [v4] at d
    exact no d (fun q hd => hd q.2.2.1)
  · intro _ d
    rw [v2] at d
    exact no d (fun q hd => hd q.2.1)
  · intro d
    exact no d (fun q hd => hd ((aYr_iff a1).mpr q.1))
end RD
end
