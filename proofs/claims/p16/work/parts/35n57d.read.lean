/-! deals' text, as a function; as the class reads it -/
abbrev hAct : Type := Nat × Nat × Int × Nat × Nat
abbrev hRd : Type := Option (Nat × hAct) × Int
def ndg (T : Nat → Int) (L : Nat) : Nat → Nat → Nat
  | _, 0 => 0
  | p, k + 1 => if 48 ≤ tx T L p ∧ tx T L p ≤ 57 then ndg T L (p + 1) k + 1 else 0
theorem ndg_of {T : Nat → Int} {L : Nat} : ∀ {j most p : Nat}, j ≤ most → (∀ i, i < j → isDg (tx T L (p + i))) → (j = most ∨ ¬ isDg (tx T L (p + j))) → ndg T L p most = j
  | 0, 0, p, _, _, _ => rfl
  | 0, k + 1, p, _, _, he => by
    rcases he with e | e
    · cases e
    · exact if_neg e
  | j + 1, 0, p, h, _, _ => absurd h (by omega)
  | j + 1, k + 1, p, h, hd, he => by
    have h0 : 48 ≤ tx T L p ∧ tx T L p ≤ 57 := hd 0 (by omega)
    have ih := ndg_of (T := T) (L := L) (j := j) (most := k) (p := p + 1) (by omega) (fun i hi => by
      have := hd (i + 1) (by omega)
      rwa [show p + 1 + i = p + (i + 1) by omega]) (by
      rcases he with e | e
      · exact .inl (by omega)
      · exact .inr (by rwa [show p + 1 + j = p + (j + 1) by omega]))
    show (if 48 ≤ tx T L p ∧ tx T L p ≤ 57 then ndg T L (p + 1) k + 1 else 0) = j + 1
    rw [if_pos h0, ih]
def dS4 (T : Nat → Int) (L q y f : Nat) (sg : Int) (t : Nat) : hRd := if sg = 62 ∨ sg = 93 then (if ndg T L q 4 = 0 then (none, lfl 1 q) else (some (q + ndg T L q 4, (y, f, sg, t, (lnum T q (ndg T L q 4)).toNat)), 0)) else (some (q, (y, f, sg, t, 0)), 0)
def dS3 (T : Nat → Int) (L q y f : Nat) (sg : Int) : hRd := if 97 ≤ tx T L q ∧ tx T L q ≤ 104 then (if tx T L q - 97 = (f : Int) then (none, lfl 6 q) else dS4 T L (q + 1) y f sg (tx T L q - 97).toNat) else (none, lfl 1 q)
def dS2 (T : Nat → Int) (L q y f : Nat) : hRd := if tx T L q = 62 ∨ tx T L q = 93 ∨ tx T L q = 91 ∨ tx T L q = 61 then dS3 T L (q + 1) y f (tx T L q) else (none, lfl 1 q)
def dS1 (T : Nat → Int) (L p q : Nat) (y : Int) : hRd := if 40 ≤ y then (none, lfl 3 p) else if 97 ≤ tx T L q ∧ tx T L q ≤ 104 then dS2 T L (q + 1) y.toNat (tx T L q - 97).toNat else (none, lfl 1 q)
def dRd (T : Nat → Int) (L p i : Nat) : hRd := if ndg T L p 2 = 0 then (none, lfl 1 p) else if 16 ≤ i then (none, lfl 4 p) else dS1 T L p (p + ndg T L p 2) (lnum T p (ndg T L p 2))
def dAll (T : Nat → Int) (L : Nat) : Nat → Nat → List hAct → List hAct ⊕ Int
  | 0, p, _ => .inr (lfl 1 p)
  | d + 1, p, A => match dRd T L p A.length with
    | (none, f) => .inr f
    | (some (p', a), _) => if L ≤ p' then .inl (A ++ [a]) else if tx T L p' = 59 then dAll T L d (p' + 1) (A ++ [a]) else .inr (lfl 1 p')
/-- an act as it was read -/
def aOK (a : hAct) : Prop := a.1 < 40 ∧ a.2.1 < 8 ∧ a.2.2.2.1 < 8 ∧ a.2.1 ≠ a.2.2.2.1 ∧ (a.2.2.1 = 62 ∨ a.2.2.1 = 93 ∨ a.2.2.1 = 91 ∨ a.2.2.1 = 61) ∧ a.2.2.2.2 < 10000
theorem ndg_dg {T : Nat → Int} {L : Nat} : ∀ {most p : Nat}, ∀ i, i < ndg T L p most → isDg (tx T L (p + i))
  | 0, p, i, h => absurd h (Nat.not_lt_zero _)
  | k + 1, p, i, h => by
    unfold ndg at h
    split at h
    · rename_i c
      cases i with
      | zero => exact c
      | succ i =>
        have := ndg_dg (T := T) (L := L) (most := k) (p := p + 1) i (by omega)
        rwa [show p + 1 + i = p + (i + 1) by omega] at this
    · exact absurd h (Nat.not_lt_zero _)
theorem ndg_le {T : Nat → Int} {L : Nat} : ∀ (most p : Nat), ndg T L p most ≤ most
  | 0, p => Nat.le_refl _
  | k + 1, p => by
    unfold ndg
    split
    · have := ndg_le (T := T) (L := L) k (p + 1)
      omega
    · omega
theorem ndg_end {T : Nat → Int} {L : Nat} (most p : Nat) (hp : p ≤ L) : p + ndg T L p most ≤ L := by
  by_cases c : ndg T L p most = 0
  · omega
  · have := isDg_lt (ndg_dg (T := T) (L := L) (most := most) (p := p) (ndg T L p most - 1) (by omega))
    omega
theorem dRd_ok {T : Nat → Int} {L p i p' : Nat} {a : hAct} {f : Int} (hp : p ≤ L) (h : dRd T L p i = (some (p', a), f)) : aOK a ∧ p < p' ∧ p' ≤ L ∧ i < 16 := by
  unfold dRd at h
  split at h
  · cases h
  split at h
  · cases h
  rename_i c1 c2
  unfold dS1 at h
  split at h
  · cases h
  rename_i c3
  have e1 := ndg_end (T := T) 2 p hp
  have b1 := (lnum_bd (T := T) (L := L) (p := p) _ (ndg_dg (most := 2))).1
  split at h
  case isFalse => cases h
  rename_i c4
  have l4 : p + ndg T L p 2 < L := tx_lt (T := T) (by omega)
  unfold dS2 at h
  split at h
  case isFalse => cases h
  rename_i c5
  have l5 : p + ndg T L p 2 + 1 < L := tx_lt (T := T) (by omega)
  unfold dS3 at h
  split at h
  case isFalse => cases h
  rename_i c6
  have l6 : p + ndg T L p 2 + 1 + 1 < L := tx_lt (T := T) (by omega)
  split at h
  · cases h
  rename_i c7
  unfold dS4 at h
  split at h
  · split at h
    · cases h
    rename_i c8 c9
    have b2 := lnum_bd (T := T) (L := L) (p := p + ndg T L p 2 + 1 + 1 + 1) _ (ndg_dg (most := 4))
    have b3 := ndg_le (T := T) (L := L) 4 (p + ndg T L p 2 + 1 + 1 + 1)
    have e2 := ndg_end (T := T) 4 (p + ndg T L p 2 + 1 + 1 + 1) l6
    have b4 : lpw (ndg T L (p + ndg T L p 2 + 1 + 1 + 1) 4) ≤ 10000 := by
      generalize ndg T L (p + ndg T L p 2 + 1 + 1 + 1) 4 = j at b3
      have : j = 0 ∨ j = 1 ∨ j = 2 ∨ j = 3 ∨ j = 4 := by omega
      rcases this with rfl | rfl | rfl | rfl | rfl <;> decide
    cases h
    refine ⟨⟨?_, ?_, ?_, ?_, c5, ?_⟩, by omega, e2, by omega⟩ <;> dsimp only <;> omega
  · cases h
    refine ⟨⟨?_, ?_, ?_, ?_, c5, ?_⟩, by omega, by omega, by omega⟩ <;> dsimp only <;> omega
theorem dAll_ok {T : Nat → Int} {L : Nat} : ∀ {d p : Nat} {A B : List hAct}, p ≤ L → (∀ a ∈ A, aOK a) → dAll T L d p A = .inl B → (∀ a ∈ B, aOK a) ∧ 1 ≤ B.length ∧ B.length ≤ 16
  | 0, p, A, B, _, _, h => by cases h
  | d + 1, p, A, B, hp, hA, h => by
    unfold dAll at h
    split at h
    · cases h
    · rename_i p' a f e
      obtain ⟨h1, h2, h3, h4⟩ := dRd_ok hp e
      have hA' : ∀ b ∈ A ++ [a], aOK b := fun b hb => by
        rcases List.mem_append.mp hb with hb | hb
        · exact hA b hb
        · rw [List.mem_singleton] at hb
          rw [hb]
          exact h1
      split at h
      · cases h
        rw [List.length_append, List.length_singleton]
        exact ⟨hA', by omega, by omega⟩
      · split at h
        · exact dAll_ok (by omega) hA' h
        · cases h
def cAc (A : List hAct) (m : gx_M) : Prop := m 61 5 = (A.length : Int) ∧ ∀ i a, A[i]? = some a → m 62 i = (a.1 : Int) ∧ m 63 i = (a.2.1 : Int) ∧ m 64 i = a.2.2.1 ∧ m 65 i = (a.2.2.2.1 : Int) ∧ m 66 i = (a.2.2.2.2 : Int)
def cF3 (m0 m : gx_M) : Prop := ∀ c, c ≠ 3 → m c = m0 c
def cFd (m0 m : gx_M) : Prop := ∀ c, (c < 61 ∨ 66 < c) → c ≠ 3 → m c = m0 c
theorem cF3_d {m0 m : gx_M} (h : cF3 m0 m) : cFd m0 m := fun c _ h3 => h c h3
theorem cFd_t {m m1 m2 : gx_M} (h : cFd m m1) (h' : cFd m1 m2) : cFd m m2 := fun c a b => (h' c a b).trans (h c a b)
theorem cF3_t {m m1 m2 : gx_M} (h : cF3 m m1) (h' : cF3 m1 m2) : cF3 m m2 := fun c a => (h' c a).trans (h c a)
theorem cAc_3 {A : List hAct} {m0 m : gx_M} (h : cF3 m0 m) (hA : cAc A m0) : cAc A m := by
  unfold cAc
  rw [h 61 (by decide), h 62 (by decide), h 63 (by decide), h 64 (by decide), h 65 (by decide), h 66 (by decide)]
  exact hA
section DT
variable {xs : List Int32} {n : Nat} {Q : hQ} {T : Nat → Int} {L p : Nat} {m : gx_M}
theorem cT30 (hS : cTx T L p m) (hp : p < L) (hL : L ≤ 240) (h : ∀ m', cTx T L (p + 1) m' → cF3 m m' → Q none m') : hxn xs n yp_m30 0 [(0, .inr (.inl 3))] [] m Q := by
  obtain ⟨t1, t2, t3, t4, t5⟩ := hS
  refine hx_dn (hr30_0 (by omega) (fun c => absurd c (by omega)) (fun _ => ?_))
  rw [t2]
  refine cs25 (p := p + 1) (T := T) (L := L) ?_ (fun k hk => ?_) hL ?_
  · rw [gx_u_ne (by omega)]
    exact t1
  · rw [gx_u_ne (by omega)]
    exact t5 k hk
  · refine hx_dn (hr30_30 (h _ ⟨?_, ?_, ?_, ?_, fun k hk => ?_⟩ (fun c hc => ?_)))
    · rw [gx_u_ne (by omega), gx_u_ne (by omega)]
      exact t1
    · rw [gx_u_ne (by omega), gx_u_self]
      omega
    · rw [gx_u_self]
    · rw [gx_u_ne (by omega), gx_u_ne (by omega)]
      exact t4
    · rw [gx_u_ne (by omega), gx_u_ne (by omega)]
      exact t5 k hk
    · rw [gx_u_off hc, gx_u_off hc]
theorem cT29 (t4 : m 3 4 = 0) (hL : p ≤ 240) {a : Int} (ha : 0 ≤ a ∧ a ≤ 9) (h : ∀ m', m' 3 4 = lfl a p → cF3 m m' → Q (some (.inl 0)) m') : hxn xs n yp_m29 0 [(0, .inr (.inl 3)), (1, .inl a), (2, .inl (p : Int))] [] m Q := by
  refine hx_dn (hr29_0 (fun c => absurd t4 c) (fun _ => h _ ?_ (fun c hc => gx_u_off hc)))
  rw [gx_u_self, gx_w_id (x := (-1000) * a) (by omega) (by omega), gx_w_id (by omega) (by omega)]
  rfl
theorem cT28 (hS : cTx T L p m) (hL : p ≤ 240) (h : ∀ m', m' 3 4 = lfl 1 p → cF3 m m' → Q (some (.inl 0)) m') : hxn xs n yp_m28 0 [(0, .inr (.inl 3))] [] m Q := by
  refine hx_dn (hr28_0 ?_)
  rw [hS.2.1]
  exact cT29 hS.2.2.2.1 hL (by decide) (fun m' h1 h2 => hx_dn (hr28_9 (h m' h1 h2)))
theorem cT37 (hS : cTx T L p m) (hL : L ≤ 240) (hp : p ≤ L) {c : Int} (hc : c ≠ -1) (h1 : tx T L p = c → ∀ m', cTx T L (p + 1) m' → cF3 m m' → Q (some (.inl 1)) m') (h0 : tx T L p ≠ c → ∀ m', m' 3 4 = lfl 1 p → cF3 m m' → Q (some (.inl 0)) m') : hxn xs n yp_m37 0 [(0, .inr (.inl 3)), (1, .inl c)] [] m Q := by
  refine hx_dn (hr37_0 (fun e => ?_) (fun e => ?_))
  · rw [hS.2.2.1] at e
    exact cT30 hS (tx_lt (T := T) (by rw [e]; exact hc)) hL (fun m' hm hf => hx_dn (hr37_17 (h1 e m' hm hf)))
  · rw [hS.2.2.1] at e
    exact cT28 hS (by omega) (fun m' hm hf => hx_dn (hr37_12 (h0 e m' hm hf)))
theorem cT35 {most : Nat} (hm : most ≤ 5) (hL : L ≤ 240) (hS : cTx T L p m) (h : ∀ m', cTx T L (p + ndg T L p most) m' → cF3 m m' → Q (some (.inl (lnum T p (ndg T L p most)))) m') : hxn xs n yp_m35 0 [(0, .inr (.inl 3)), (1, .inl (most : Int))] [] m Q := by
  have hl : ∀ e j : Nat, j + e = most → ∀ m', cTx T L (p + j) m' → cF3 m m' → (∀ i, i < j → isDg (tx T L (p + i))) → hxn xs n yp_m35 4 [(0, .inr (.inl 3)), (1, .inl (most : Int)), (2, .inl (lnum T p j)), (3, .inl (j : Int))] [] m' Q := by
    intro e
    induction e with
    | zero =>
      intro j hj m' hS hf hd
      have e : j = most := by omega
      subst e
      have en := ndg_of (Nat.le_refl j) hd (.inl rfl)
      have := h m' (by rw [en]; exact hS) hf
      rw [en] at this
      exact hx_dn (hr35_4 (by omega) (fun _ => this) (fun c => absurd c (by omega)) (fun c => absurd c (by omega)))
    | succ e ih =>
      intro j hj m' hS hf hd
      refine hx_dn (hr35_4 (by omega) (fun c => absurd c (by omega)) (fun _ c => ?_) (fun _ c => ?_))
      · rw [hS.2.2.1] at c ⊢
        have hlt := isDg_lt c
        have hd2 : ∀ i, i < j + 1 → isDg (tx T L (p + i)) := fun i hi => by
          by_cases e : i = j
          · rw [e]
            exact c
          · exact hd i (by omega)
        have b1 := lnum_bd (T := T) (L := L) (p := p) j hd
        have b2 := lpw_le (j := j) (by omega)
        have c2 : 48 ≤ T (p + j) ∧ T (p + j) ≤ 57 := by
          rw [tx_eq hlt] at c
          exact c
        have ev : gx_w (gx_w (gx_w (10 * lnum T p j) + tx T L (p + j)) - 48) = lnum T p (j + 1) := by
          rw [tx_eq hlt, gx_w_id (x := 10 * lnum T p j) (by omega) (by omega), gx_w_id (x := 10 * lnum T p j + T (p + j)) (by omega) (by omega), gx_w_id (by omega) (by omega)]
          rfl
        rw [ev]
        exact cT30 hS hlt hL (fun m2 h2 f2 => hx_dn (hr35_33 (by omega) (ih (j + 1) (by omega) m2 h2 (cF3_t hf f2) hd2)))
      · rw [hS.2.2.1] at c
        have en := ndg_of (most := most) (by omega) hd (.inr c)
        have := h m' (by rw [en]; exact hS) hf
        rw [en] at this
        exact this
  exact hx_dn (hr35_0 (hl most 0 (Nat.zero_add _) m hS (fun _ _ => rfl) (fun i hi => absurd hi (by omega))))
/-! an act -/
def dPC (T : Nat → Int) (L : Nat) (A : List hAct) (m0 : gx_M) (r : hRd) (v : Int) (m : gx_M) : Prop := cFd m0 m ∧ match r with
  | (some (p', a), _) => v = 1 ∧ cTx T L p' m ∧ cAc (A ++ [a]) m
  | (none, f) => v = 0 ∧ m 3 4 = f
theorem cAc_app {A : List hAct} {a : hAct} {M : gx_M} (hA : ∀ i b, A[i]? = some b → M 62 i = (b.1 : Int) ∧ M 63 i = (b.2.1 : Int) ∧ M 64 i = b.2.2.1 ∧ M 65 i = (b.2.2.2.1 : Int) ∧ M 66 i = (b.2.2.2.2 : Int)) (h5 : M 61 5 = (A.length : Int) + 1) (e : M 62 A.length = (a.1 : Int) ∧ M 63 A.length = (a.2.1 : Int) ∧ M 64 A.length = a.2.2.1 ∧ M 65 A.length = (a.2.2.2.1 : Int) ∧ M 66 A.length = (a.2.2.2.2 : Int)) : cAc (A ++ [a]) M := by
  refine ⟨by rw [List.length_append, List.length_singleton, h5]; rfl, fun i b hb => ?_⟩
  rcases lg_app hb with hb | ⟨rfl, rfl⟩
  · exact hA i b hb
  · exact e
variable {A : List hAct} {m0 : gx_M} {y f t : Nat} {sg : Int}
theorem c52_133 (hL : L ≤ 240) (hp : p ≤ L) (hS : cTx T L p m) (hA : cAc A m) (h16 : A.length < 16) (hf : cFd m0 m) (e : m 62 A.length = (y : Int) ∧ m 63 A.length = (f : Int) ∧ m 64 A.length = sg ∧ m 65 A.length = (t : Int)) (hQ : ∀ v m', dPC T L A m0 (dS4 T L p y f sg t) v m' → Q (some (.inl v)) m') : hxn xs n yp_m52 133 [(0, .inr (.inl 61)), (1, .inr (.inl 3)), (2, .inl sg)] [] m Q := by
  have hi := hA.1
  have pri : (sg = 62 ∨ sg = 93) → isDg (m 3 3) → hxn xs n yp_m35 0 [(0, .inr (.inl 3)), (1, .inl 4)] [] m (fun r m' => hxn xs n yp_m52 184 [(0, .inr (.inl 61))] (hrs r ++ [.inl (m 61 5), .inr (.inl 66)]) m' Q) := fun hs hd => by
    rw [hS.2.2.1] at hd
    have hd : 48 ≤ tx T L p ∧ tx T L p ≤ 57 := hd
    have hnd : ndg T L p 4 ≠ 0 := by
      unfold ndg
      rw [if_pos hd]
      omega
    refine cT35 (most := 4) (by decide) hL hS (fun m1 h1 g1 => ?_)
    have b2 := (lnum_bd (T := T) (L := L) (p := p) _ (ndg_dg (most := 4))).1
    refine hx_dn (hr52_184 ?_)
    rw [hi, Int.toNat_natCast, g1 61 (by decide), hi, gx_w_id (by omega) (by omega)]
    refine hQ 1 _ ⟨fun c hc h3 => ?_, ?_⟩
    · rw [gx_u_off (by omega), gx_u_off (by omega), g1 c h3]
      exact hf c hc h3
    · unfold dS4
      rw [if_pos hs, if_neg hnd]
      refine ⟨rfl, ?_, cAc_app (fun i b hb => ?_) (by rw [gx_u_self]) ?_⟩
      · unfold cTx
        rw [gx_u_off (by decide), gx_u_off (by decide), gx_u_off (by decide), gx_u_off (by decide)]
        exact h1
      · have hlt := lg_lt hb
        rw [gx_u_ne (by omega), gx_u_ne (by omega), gx_u_ne (by omega), gx_u_ne (by omega), gx_u_ne (by omega), gx_u_ne (by omega), gx_u_ne (by omega), gx_u_ne (by omega), gx_u_ne (by omega), gx_u_ne (by omega), g1 62 (by decide), g1 63 (by decide), g1 64 (by decide), g1 65 (by decide), g1 66 (by decide)]
        exact hA.2 i b hb
      · rw [gx_u_ne (by omega), gx_u_ne (by omega), gx_u_ne (by omega), gx_u_ne (by omega), gx_u_ne (by omega), gx_u_ne (by omega), gx_u_ne (by omega), gx_u_ne (by omega), gx_u_ne (by omega), gx_u_self, g1 62 (by decide), g1 63 (by decide), g1 64 (by decide), g1 65 (by decide)]
        exact ⟨e.1, e.2.1, e.2.2.1, e.2.2.2, by dsimp only; omega⟩
  have bad : (sg = 62 ∨ sg = 93) → ¬ isDg (m 3 3) → hxn xs n yp_m28 0 [(0, .inr (.inl 3))] [] m (fun r m' => hxn xs n yp_m52 166 [] (hrs r ++ []) m' Q) := fun hs hd => by
    rw [hS.2.2.1] at hd
    refine cT28 hS (by omega) (fun m1 h1 g1 => hx_dn (hr52_166 (hQ 0 m1 ⟨cFd_t hf (cF3_d g1), ?_⟩)))
    unfold dS4
    rw [if_pos hs, if_pos (ndg_of (j := 0) (by omega) (fun i hi => absurd hi (by omega)) (.inr hd))]
    exact ⟨rfl, h1⟩
  refine hx_dn (hr52_133 (fun a b => pri (.inl a) b) (fun a b => bad (.inl a) b) (fun a b => ?_) (fun _ a b => pri (.inr a) b) (fun _ a b => bad (.inr a) b))
  rw [hi, Int.toNat_natCast, gx_w_id (by omega) (by omega)]
  refine hQ 1 _ ⟨fun c hc h3 => ?_, ?_⟩
  · rw [gx_u_off (by omega), gx_u_off (by omega)]
    exact hf c hc h3
  · unfold dS4
    rw [if_neg (by omega)]
    refine ⟨rfl, ?_, cAc_app (fun i b hb => ?_) (by rw [gx_u_self]) ?_⟩
    · unfold cTx
      rw [gx_u_off (by decide), gx_u_off (by decide), gx_u_off (by decide), gx_u_off (by decide)]
      exact hS
    · have hlt := lg_lt hb
      rw [gx_u_ne (by omega), gx_u_ne (by omega), gx_u_ne (by omega), gx_u_ne (by omega), gx_u_ne (by omega), gx_u_ne (by omega), gx_u_ne (by omega), gx_u_ne (by omega), gx_u_ne (by omega), gx_u_ne (by omega)]
      exact hA.2 i b hb
    · rw [gx_u_ne (by omega), gx_u_ne (by omega), gx_u_ne (by omega), gx_u_ne (by omega), gx_u_ne (by omega), gx_u_ne (by omega), gx_u_ne (by omega), gx_u_ne (by omega), gx_u_ne (by omega), gx_u_self]
      exact ⟨e.1, e.2.1, e.2.2.1, e.2.2.2, rfl⟩
/-- one write at the row's end -/
theorem cw_end {c : Nat} {v : Int} (hc : 62 ≤ c ∧ c ≤ 66) (hS : cTx T L p m) (hA : cAc A m) (hf : cFd m0 m) : cTx T L p (gx_u m c A.length v) ∧ cAc A (gx_u m c A.length v) ∧ cFd m0 (gx_u m c A.length v) := by
  refine ⟨?_, ⟨?_, fun i a ha => ?_⟩, fun c' h1 h3 => ?_⟩
  · unfold cTx
    rw [gx_u_off (by omega), gx_u_off (by omega)]
    exact hS
  · rw [gx_u_ne (by omega)]
    exact hA.1
  · have hlt := lg_lt ha
    rw [gx_u_ne (by omega), gx_u_ne (by omega), gx_u_ne (by omega), gx_u_ne (by omega), gx_u_ne (by omega)]
    exact hA.2 i a ha
  · rw [gx_u_off (by omega)]
    exact hf c' h1 h3
theorem c52_66 (hL : L ≤ 240) (hp : p ≤ L) (hS : cTx T L p m) (hA : cAc A m) (h16 : A.length < 16) (hf : cFd m0 m) (e : m 62 A.length = (y : Int) ∧ m 63 A.length = (f : Int) ∧ m 64 A.length = sg) (hQ : ∀ v m', dPC T L A m0 (dS3 T L p y f sg) v m' → Q (some (.inl v)) m') : hxn xs n yp_m52 66 [(0, .inr (.inl 61)), (1, .inr (.inl 3)), (2, .inl sg)] [] m Q := by
  have hi := hA.1
  refine hx_dn (hr52_66 (fun a => ?_) (fun a => ?_))
  · rw [hS.2.2.1] at a ⊢
    have a' : 97 ≤ tx T L p ∧ tx T L p ≤ 104 := a
    rw [hi, Int.toNat_natCast, gx_w_id (by omega) (by omega)]
    obtain ⟨w1, w2, w3⟩ := cw_end (c := 65) (v := tx T L p - 97) (by decide) hS hA hf
    have e65 : gx_u m 65 A.length (tx T L p - 97) 65 A.length = tx T L p - 97 := gx_u_self
    have e62 : gx_u m 65 A.length (tx T L p - 97) 62 A.length = (y : Int) ∧ gx_u m 65 A.length (tx T L p - 97) 63 A.length = (f : Int) ∧ gx_u m 65 A.length (tx T L p - 97) 64 A.length = sg := by
      rw [gx_u_ne (by omega), gx_u_ne (by omega), gx_u_ne (by omega)]
      exact e
    generalize gx_u m 65 A.length (tx T L p - 97) = M at w1 w2 w3 e65 e62 ⊢
    refine hx_dn (hr52_97 (fun b => ?_) (fun b => ?_))
    · rw [w2.1, Int.toNat_natCast, e65, e62.2.1] at b
      refine cT30 w1 (tx_lt (T := T) (by omega)) hL (fun m1 h1 g1 => ?_)
      refine c52_133 (y := y) (f := f) (t := (tx T L p - 97).toNat) hL (tx_lt (T := T) (by omega)) h1 (cAc_3 g1 w2) h16 (cFd_t w3 (cF3_d g1)) ?_ (fun v m' h => hQ v m' ?_)
      · rw [g1 62 (by decide), g1 63 (by decide), g1 64 (by decide), g1 65 (by decide), e65]
        exact ⟨e62.1, e62.2.1, e62.2.2, by omega⟩
      · unfold dS3
        rw [if_pos a', if_neg b]
        exact h
    · rw [w2.1, Int.toNat_natCast, e65, e62.2.1] at b
      rw [w1.2.1]
      refine cT29 w1.2.2.2.1 (by omega) (by decide) (fun m1 h1 g1 => hx_dn (hr52_128 (hQ 0 m1 ⟨cFd_t w3 (cF3_d g1), ?_⟩)))
      unfold dS3
      rw [if_pos a', if_pos b]
      exact ⟨rfl, h1⟩
  · rw [hS.2.2.1] at a
    refine cT28 hS (by omega) (fun m1 h1 g1 => hx_dn (hr52_80 (hQ 0 m1 ⟨cFd_t hf (cF3_d g1), ?_⟩)))
    unfold dS3
    rw [if_neg (show ¬ (97 ≤ tx T L p ∧ tx T L p ≤ 104) from a)]
    exact ⟨rfl, h1⟩
theorem c52_0 (hL : L ≤ 240) (hp : p ≤ L) (hS : cTx T L p m) (hA : cAc A m) (h16 : A.length < 16) (hf : cFd m0 m) (e : m 62 A.length = (y : Int) ∧ m 63 A.length = (f : Int)) (hQ : ∀ v m', dPC T L A m0 (dS2 T L p y f) v m' → Q (some (.inl v)) m') : hxn xs n yp_m52 0 [(0, .inr (.inl 61)), (1, .inr (.inl 3))] [] m Q := by
  have hi := hA.1
  have good : (tx T L p = 62 ∨ tx T L p = 93 ∨ tx T L p = 91 ∨ tx T L p = 61) → hxn xs n yp_m30 0 [(0, .inr (.inl 3))] [] (gx_u m 64 (m 61 5).toNat (m 3 3)) (fun r m' => hxn xs n yp_m52 66 [(0, .inr (.inl 61)), (1, .inr (.inl 3)), (2, .inl (m 3 3))] (hrs r ++ []) m' Q) := fun hs => by
    rw [hi, Int.toNat_natCast, hS.2.2.1]
    obtain ⟨w1, w2, w3⟩ := cw_end (c := 64) (v := tx T L p) (by decide) hS hA hf
    refine cT30 w1 (tx_lt (T := T) (by omega)) hL (fun m1 h1 g1 => ?_)
    refine c52_66 (y := y) (f := f) hL (tx_lt (T := T) (by omega)) h1 (cAc_3 g1 w2) h16 (cFd_t w3 (cF3_d g1)) ?_ (fun v m' h => hQ v m' ?_)
    · rw [g1 62 (by decide), g1 63 (by decide), g1 64 (by decide), gx_u_ne (by omega), gx_u_ne (by omega), gx_u_self]
      exact ⟨e.1, e.2, rfl⟩
    · unfold dS2
      rw [if_pos hs]
      exact h
  refine hx_dn (hr52_0 (fun c => absurd c (by omega)) (fun _ _ a => good (by rw [← hS.2.2.1]; omega)) (fun _ _ _ a => good (by rw [← hS.2.2.1]; omega)) (fun _ _ _ _ a => good (by rw [← hS.2.2.1]; omega)) (fun _ _ _ _ _ a => good (by rw [← hS.2.2.1]; omega)) (fun _ _ a b c d => ?_) (fun _ c => absurd c (by omega)))
  rw [hS.2.2.1] at a b c d
  refine cT28 hS (by omega) (fun m1 h1 g1 => hx_dn (hr52_51 (hQ 0 m1 ⟨cFd_t hf (cF3_d g1), ?_⟩)))
  unfold dS2
  rw [if_neg (by omega)]
  exact ⟨rfl, h1⟩
theorem c50_0 (hL : L ≤ 240) (hp : p ≤ L) (hS : cTx T L p m) (hA : cAc A m) (h16 : A.length ≤ 16) (hf : cFd m0 m) (hQ : ∀ v m', dPC T L A m0 (dRd T L p A.length) v m' → Q (some (.inl v)) m') : hxn xs n yp_m50 0 [(0, .inr (.inl 61)), (1, .inr (.inl 3))] [] m Q := by
  have hi := hA.1
  have hd0 : isDg (m 3 3) → ndg T L p 2 ≠ 0 := fun hd => by
    rw [hS.2.2.1] at hd
    have hd : 48 ≤ tx T L p ∧ tx T L p ≤ 57 := hd
    unfold ndg
    rw [if_pos hd]
    omega
  refine hx_dn (hr50_0 (fun _ c => absurd c (by omega)) (fun a _ b => ?_) (fun a _ b => ?_) (fun a => ?_))
  · have h0 := hd0 a
    refine cT35 (most := 2) (by decide) hL hS (fun m1 h1 g1 => ?_)
    have hpe := ndg_end (T := T) 2 p hp
    obtain ⟨b2, -⟩ := lnum_bd (T := T) (L := L) (p := p) _ (ndg_dg (most := 2))
    have hi1 : m1 61 5 = (A.length : Int) := by rw [g1 61 (by decide)]; exact hi
    have hA1 := cAc_3 g1 hA
    have hf1 := cFd_t hf (cF3_d g1)
    have hR : dRd T L p A.length = dS1 T L p (p + ndg T L p 2) (lnum T p (ndg T L p 2)) := by
      unfold dRd
      rw [if_neg h0, if_neg (by omega)]
    rw [hR] at hQ
    obtain ⟨w1, w2, w3⟩ := cw_end (c := 62) (v := lnum T p (ndg T L p 2)) (by decide) h1 hA1 hf1
    refine hx_dn (hr50_53 (fun c d => ?_) (fun c d => ?_) (fun c => ?_))
    · rw [hi, Int.toNat_natCast, hi1, Int.toNat_natCast, gx_u_self] at c
      rw [h1.2.2.1] at d
      have d' : 97 ≤ tx T L (p + ndg T L p 2) ∧ tx T L (p + ndg T L p 2) ≤ 104 := d
      rw [hi, Int.toNat_natCast, hi1, Int.toNat_natCast, h1.2.2.1, gx_w_id (by omega) (by omega)]
      obtain ⟨u1, u2, u3⟩ := cw_end (c := 63) (v := tx T L (p + ndg T L p 2) - 97) (by decide) w1 w2 w3
      refine cT30 u1 (tx_lt (T := T) (by omega)) hL (fun m2 h2 g2 => ?_)
      refine hx_dn (hr50_110 ?_)
      refine c52_0 (y := (lnum T p (ndg T L p 2)).toNat) (f := (tx T L (p + ndg T L p 2) - 97).toNat) hL (tx_lt (T := T) (by omega)) h2 (cAc_3 g2 u2) (by omega) (cFd_t u3 (cF3_d g2)) ?_ (fun v m' h => hx_dn (hr50_115 (hQ v m' ?_)))
      · rw [g2 62 (by decide), g2 63 (by decide), gx_u_ne (by omega), gx_u_self, gx_u_self]
        exact ⟨by omega, by omega⟩
      · unfold dS1
        rw [if_neg (by omega), if_pos d']
        exact h
    · rw [hi, Int.toNat_natCast, hi1, Int.toNat_natCast, gx_u_self] at c
      rw [h1.2.2.1] at d
      rw [hi, Int.toNat_natCast]
      refine cT28 w1 (by omega) (fun m2 h2 g2 => hx_dn (hr50_89 (hQ 0 m2 ⟨cFd_t w3 (cF3_d g2), ?_⟩)))
      unfold dS1
      rw [if_neg (by omega), if_neg (show ¬ (97 ≤ tx T L (p + ndg T L p 2) ∧ tx T L (p + ndg T L p 2) ≤ 104) from d)]
      exact ⟨rfl, h2⟩
    · rw [hi, Int.toNat_natCast, hi1, Int.toNat_natCast, gx_u_self] at c
      rw [hi, Int.toNat_natCast, hS.2.1]
      refine cT29 w1.2.2.2.1 (by omega) (by decide) (fun m2 h2 g2 => hx_dn (hr50_74 (hQ 0 m2 ⟨cFd_t w3 (cF3_d g2), ?_⟩)))
      unfold dS1
      rw [if_pos c]
      exact ⟨rfl, h2⟩
  · have h0 := hd0 a
    rw [hS.2.1]
    refine cT29 hS.2.2.2.1 (by omega) (by decide) (fun m2 h2 g2 => hx_dn (hr50_39 (hQ 0 m2 ⟨cFd_t hf (cF3_d g2), ?_⟩)))
    unfold dRd
    rw [if_neg h0, if_pos (by omega)]
    exact ⟨rfl, h2⟩
  · rw [hS.2.2.1] at a
    refine cT28 hS (by omega) (fun m2 h2 g2 => hx_dn (hr50_11 (hQ 0 m2 ⟨cFd_t hf (cF3_d g2), ?_⟩)))
    unfold dRd
    rw [if_pos (ndg_of (j := 0) (by omega) (fun i hi => absurd hi (by omega)) (.inr a))]
    exact ⟨rfl, h2⟩
/-- the class reads deals -/
def dPA (m0 : gx_M) (r : List hAct ⊕ Int) (v : Int) (m : gx_M) : Prop := cFd m0 m ∧ match r with
  | .inl A => v = 1 ∧ cAc A m
  | .inr f => v = 0 ∧ m 3 4 = f
theorem c49l (hL : L ≤ 240) : ∀ d i p : Nat, i + d = 17 → i ≤ 16 → p ≤ L → ∀ (A : List hAct) (m : gx_M), A.length = i → cTx T L p m → cAc A m → cFd m0 m → (∀ v m', dPA m0 (dAll T L d p A) v m' → Q (some (.inl v)) m') → hxn xs n yp_m49 7 [(0, .inr (.inl 61)), (1, .inr (.inl 3)), (2, .inl (i : Int))] [] m Q := by
  intro d
  induction d with
  | zero =>
    intro i p hi h16 hp A m hl hS hA hf hQ
    exact absurd h16 (by omega)
  | succ d ih =>
    intro i p hi h16 hp A m hl hS hA hf hQ
    refine hx_dn (hr49_7 (fun c => absurd c (by omega)) (fun _ => ?_))
    refine c50_0 hL hp hS hA (by omega) hf (fun v m1 h1 => ?_)
    unfold dAll at hQ
    unfold dPC at h1
    cases hR : dRd T L p A.length with
    | mk o f =>
      rw [hR] at h1 hQ
      cases o with
      | none =>
        obtain ⟨hf1, rfl, h4⟩ := h1
        exact hx_dn (hr49_18 (fun c => absurd rfl c) (fun _ => hQ 0 m1 ⟨hf1, rfl, h4⟩))
      | some pa =>
        obtain ⟨p', a⟩ := pa
        obtain ⟨hf1, rfl, hS1, hA1⟩ := h1
        obtain ⟨-, -, hpL, h17⟩ := dRd_ok hp hR
        dsimp only at hQ
        refine hx_dn (hr49_18 (fun _ => ?_) (fun c => absurd c (by decide)))
        refine hx_dn (hr46_0 (fun c => ?_) (fun c => ?_))
        · rw [hS1.2.1, hS1.1] at c
          rw [if_neg (by omega)] at hQ
          refine hx_dn (hr49_27 (fun _ => ?_) (fun c => absurd rfl c))
          refine cT37 hS1 hL hpL (by decide) (fun e m2 h2 g2 => ?_) (fun e m2 h2 g2 => ?_)
          · rw [if_pos e] at hQ
            refine hx_dn (hr49_38 (fun _ => ?_) (fun c => absurd c (by decide)))
            rw [ew_u (by omega)]
            exact ih (i + 1) (p' + 1) (by omega) (by omega) (by omega) (A ++ [a]) m2 (by rw [List.length_append, List.length_singleton, hl]) h2 (cAc_3 g2 hA1) (cFd_t hf1 (cF3_d g2)) hQ
          · rw [if_neg e] at hQ
            exact hx_dn (hr49_38 (fun c => absurd rfl c) (fun _ => hQ 0 m2 ⟨cFd_t hf1 (cF3_d g2), rfl, h2⟩))
        · rw [hS1.2.1, hS1.1] at c
          rw [if_pos (by omega)] at hQ
          exact hx_dn (hr49_27 (fun c => absurd c (by decide)) (fun _ => hQ 1 m1 ⟨hf1, rfl, hA1⟩))
theorem c49 (hL : L ≤ 240) (hS : cTx T L 0 m) (hQ : ∀ v m', dPA m (dAll T L 17 0 []) v m' → Q (some (.inl v)) m') : hxn xs n yp_m49 0 [(0, .inr (.inl 61)), (1, .inr (.inl 3))] [] m Q := by
  refine hx_dn (hr49_0 ?_)
  refine c49l hL 17 0 0 rfl (Nat.zero_le _) (Nat.zero_le _) [] _ rfl ?_ ⟨gx_u_self, fun i a ha => by cases ha⟩ (fun c h1 h3 => gx_u_off (by omega)) hQ
  unfold cTx
  rw [gx_u_off (by decide), gx_u_off (by decide)]
  exact hS
end DT
