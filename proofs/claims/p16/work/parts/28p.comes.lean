/-! what the codes of a law come to; isBarred, byLaw -/
/-- a code at place k of a stretch that ends at b; H says how high the stack stands -/
def gx_cd (c : Int) (H : Nat → Nat) (k b : Nat) : Prop := 0 ≤ c ∧ (c / 1048576 = 0 → H (k + 1) = H k + 1) ∧ (c / 1048576 = 1 → c % 1048576 < 14 ∧ H (k + 1) = H k + 1) ∧ (c / 1048576 = 10 → 1 ≤ H k ∧ H (k + 1) = H k)
  ∧ (c / 1048576 = 11 ∨ c / 1048576 = 12 → 1 ≤ H k ∧ H (k + 1) + 1 = H k ∧ (k : Int) < c % 1048576 ∧ c % 1048576 ≤ (b : Int) ∧ H (c % 1048576).toNat = H k)
  ∧ (c / 1048576 ≠ 0 → c / 1048576 ≠ 1 → c / 1048576 ≠ 10 → c / 1048576 ≠ 11 → c / 1048576 ≠ 12 → 2 ≤ H k ∧ H (k + 1) + 1 = H k)
def gx_cds (r : Nat → Int) (a b : Nat) (H : Nat → Nat) : Prop := H a = 0 ∧ ∀ k, a ≤ k → k < b → gx_cd (r k) H k b
def gx_wf (r : Nat → Int) (a b : Int) : Prop := 0 ≤ a ∧ a ≤ b ∧ b ≤ 250 ∧ ∃ H : Nat → Nat, gx_cds r a.toNat b.toNat H
/-- the law that stands is well formed -/
def gx_X (m : gx_M) : Prop := ∀ q : Nat, q < 16 → (q : Int) < m 86 13 → gx_wf (m 97) (m 99 q) (m 100 q) ∧ gx_wf (m 97) (m 100 q) (m 101 q)
theorem gx_wf_c {r r' : Nat → Int} {a b : Int} (hr : ∀ k, k < 260 → r' k = r k) (h : gx_wf r a b) : gx_wf r' a b := by
  obtain ⟨h1, h2, h3, H, h4, h5⟩ := h
  refine ⟨h1, h2, h3, H, h4, fun k k1 k2 => ?_⟩
  rw [hr k (by omega)]
  exact h5 k k1 k2
theorem gx_X_c : gx_Xc gx_X := by
  intro m m' h hX q hq hlt
  have e : ∀ c lo hi, (c, lo, hi) ∈ bw_PC → ∀ k, lo ≤ k → k < hi → m' c k = m c k := fun c lo hi hm k h1 h2 => h _ hm k h1 h2
  have e97 := e 97 0 260 (by decide)
  have e99 := e 99 0 16 (by decide) q (Nat.zero_le _) hq
  have e100 := e 100 0 16 (by decide) q (Nat.zero_le _) hq
  have e101 := e 101 0 16 (by decide) q (Nat.zero_le _) hq
  have e86 := e 86 13 14 (by decide) 13 (by omega) (by omega)
  rw [e86] at hlt
  obtain ⟨h1, h2⟩ := hX q hq hlt
  rw [e99, e100, e101]
  exact ⟨gx_wf_c (fun k hk => e97 k (Nat.zero_le _) hk) h1, gx_wf_c (fun k hk => e97 k (Nat.zero_le _) hk) h2⟩
def gx_stk : bx_M := [(102, 0, 260)]
section GCM
variable {xs : List Int32} {w0 : sx_W} {d : Nat} {Q : gx_Q} {m : gx_M}
theorem gx_stk97 {m m' : gx_M} (h : gx_fw gx_stk m m') {c : Nat} (hc : c ≠ 102) : m' c = m c := h.row (fun q hq e => by
  rw [gx_stk, List.mem_singleton] at hq
  subst hq
  exact hc e.symm)
theorem gx_stkw {m0 m : gx_M} (hI : gx_I m) (hf : gx_fw gx_stk m0 m) {k v : Int} (h1 : 0 ≤ k) (h2 : k < 260) (h3 : -2147483648 ≤ v ∧ v ≤ 2147483647) : gx_I (gx_u m 102 k.toNat v) ∧ gx_fw gx_stk m0 (gx_u m 102 k.toNat v) :=
  ⟨gx_I_w hI 102 (z := k) 0 259 (-2147483648) 2147483647 (by decide +kernel) h1 (by omega) h3.1 h3.2, hf.w ⟨_, List.mem_singleton.mpr rfl, rfl, Nat.zero_le _, by show k.toNat < 260; omega⟩⟩
theorem gl_comes {m0 : gx_M} {a b : Nat} {H : Nat → Nat} (hH : gx_cds (m0 97) a b H) (hb : b ≤ 250) (hQ : ∀ v m, gx_I m → gx_fw gx_stk m0 m → Q (some v) m) : ∀ (j k : Nat) (K N : Int) (m : gx_M), b - k = j → a ≤ k → k ≤ b → K = k → N = H k → N ≤ k → gx_I m → gx_fw gx_stk m0 m → gx_to xs w0 (d + 1) yp_m208 16 [(0, .inr 86), (2, .inl (b : Int)), (3, .inl N), (4, .inl 0), (5, .inl K)] [] m Q := by
  intro j
  induction j using Nat.strongRecOn with
  | _ j ih =>
    intro k K N m hj hak hkb hK hN hle hI hf
    subst hK
    have hrec : ∀ (k' : Nat) (K N : Int) (m' : gx_M), k < k' → k' ≤ b → K = k' → N = H k' → N ≤ k' → gx_I m' ∧ gx_fw gx_stk m0 m' → gx_to xs w0 (d + 1) yp_m208 16 [(0, .inr 86), (2, .inl (b : Int)), (3, .inl N), (4, .inl 0), (5, .inl K)] [] m' Q := fun k' K N m' h1 h2 h3 h4 h5 h6 => ih (b - k') (by omega) k' K N m' rfl (by omega) h2 h3 h4 h5 h6.1 h6.2
    refine gt208_16 (by omega) (by omega) (by omega) (by omega) (fun _ => hQ _ m hI hf) (fun c => ?_)
    have hc := hH.2 k hak (by omega)
    rw [← gx_stk97 hf (by decide : (97 : Nat) ≠ 102)] at hc
    rw [Int.toNat_natCast]
    generalize hcc : m 97 k = c0 at hc
    have hcb := gx_I_at hI 97 (z := (k : Int)) 0 259 (-2147483648) 2147483647 (by decide +kernel) (by omega) (by omega)
    rw [Int.toNat_natCast, hcc] at hcb
    obtain ⟨hc0, g0, g1, g10, g11, gb⟩ := hc
    rw [Int.tdiv_eq_ediv_of_nonneg hc0, Int.tmod_eq_emod_of_nonneg hc0, gx_w_id (by omega) (by omega)]
    generalize c0 / 1048576 = op at g0 g1 g10 g11 gb
    have hv : 0 ≤ c0 % 1048576 ∧ c0 % 1048576 ≤ 1048575 := by omega
    generalize c0 % 1048576 = v at hv g0 g1 g10 g11 gb
    have hcall : 2 ≤ H k ∧ H (k + 1) + 1 = H k → (op = 5 ∨ op = 6 → m 102 (N - 1).toNat ≠ 0) → gx_to xs w0 d yp_m209 0 [(0, .inl op), (1, .inl (m 102 ((N - 1) - 1).toNat)), (2, .inl (m 102 (N - 1).toNat))] [] m (fun r m' => gx_to xs w0 (d + 1) yp_m208 229 [(0, .inr 86), (2, .inl (b : Int)), (3, .inl (N - 1)), (4, .inl 0), (5, .inl ((k : Int) + 1))] (gx_rs r ++ [.inl ((N - 1) - 1), .inr 102]) m' Q) := fun hh hz => gc_reckon hz (fun u => gx_to_s (fun hu => gt208_229 (by omega) (by omega) (by omega) (by omega) (by omega) (hrec (k + 1) _ _ _ (by omega) (by omega) (by omega) (by omega) (by omega) (gx_stkw hI hf (by omega) (by omega) hu))))
    refine gt208_52 (by omega) (by omega) (by omega) (by omega) hv
      (fun e _ => hrec (k + 1) _ _ _ (by omega) (by omega) (by omega) (by have := g0 e; omega) (by omega) (gx_stkw hI hf (by omega) (by omega) (by omega)))
      (fun _ _ _ e => by have := g11 (.inl e); omega)
      (fun _ _ _ e _ _ => hrec (k + 1) _ _ _ (by omega) (by omega) (by omega) (by have := g11 (.inl e); omega) (by omega) ⟨hI, hf⟩)
      (fun _ _ _ e _ _ => by
        have h := g11 (.inl e)
        exact hrec v.toNat _ _ _ (by omega) (by omega) (by omega) (by omega) (by omega) ⟨hI, hf⟩)
      (fun e1 e2 e3 e4 e5 _ => by have := gb e1 e2 e3 e4 e5; omega)
      (fun e1 e2 e3 e4 e5 _ _ => by have := gb e1 e2 e3 e4 e5; omega)
      (fun e1 e2 e3 e4 e5 _ _ => by have := gb e1 e2 e3 e4 e5; omega)
      (fun e1 e2 e3 e4 e5 _ z => hcall (gb e1 e2 e3 e4 e5) (fun _ => z))
      (fun _ _ _ _ _ _ _ => hQ _ m hI hf)
      (fun e1 e2 e3 e4 e5 _ _ => by have := gb e1 e2 e3 e4 e5; omega)
      (fun e1 e2 e3 e4 e5 _ _ => by have := gb e1 e2 e3 e4 e5; omega)
      (fun e1 e2 e3 e4 e5 e6 e7 => hcall (gb e1 e2 e3 e4 e5) (fun h => by omega))
      (fun e1 e2 e3 e4 e5 _ _ => by have := gb e1 e2 e3 e4 e5; omega)
      (fun e1 e2 e3 e4 e5 _ _ _ => by have := gb e1 e2 e3 e4 e5; omega)
      (fun e1 e2 e3 e4 e5 _ _ _ => by have := gb e1 e2 e3 e4 e5; omega)
      (fun e1 e2 e3 e4 e5 _ _ z => hcall (gb e1 e2 e3 e4 e5) (fun _ => z))
      (fun _ _ _ _ _ _ _ _ => hQ _ m hI hf)
      (fun _ _ _ _ e => by have := g11 (.inr e); omega)
      (fun _ _ _ _ e _ _ => hrec (k + 1) _ _ _ (by omega) (by omega) (by omega) (by have := g11 (.inr e); omega) (by omega) ⟨hI, hf⟩)
      (fun _ _ _ _ e _ _ => by
        have h := g11 (.inr e)
        exact hrec v.toNat _ _ _ (by omega) (by omega) (by omega) (by omega) (by omega) ⟨hI, hf⟩)
      (fun _ _ e => by have := g10 e; omega)
      (fun _ _ e => by have := g10 e; omega)
      (fun _ _ e => by
        have h := g10 e
        exact hrec (k + 1) _ _ _ (by omega) (by omega) (by omega) (by omega) (by omega) (gx_stkw hI hf (by omega) (by omega) (gx_w_bd _)))
      (fun _ e _ => by have := g1 e; omega)
      (fun _ e _ => by
        have h := g1 e
        exact hrec (k + 1) _ _ _ (by omega) (by omega) (by omega) (by omega) (by omega) (gx_stkw hI hf (by omega) (by omega) (gx_I_at hI 103 (z := v) 0 13 (-2147483648) 2147483647 (by decide +kernel) (by omega) (by omega))))
theorem gc_comes {a b : Int} (hw : gx_wf (m 97) a b) (hI : gx_I m) (hQ : ∀ v m', gx_I m' → gx_fw gx_stk m m' → Q (some v) m') : gx_to xs w0 (d + 1) yp_m208 0 [(0, .inr 86), (1, .inl a), (2, .inl b)] [] m Q := by
  obtain ⟨h1, h2, h3, H, hH⟩ := hw
  refine gt208_0 (by omega) (by omega) ?_
  have e : gx_w (260 * gx_w (Int.tdiv a 260)) = 0 := by
    rw [Int.tdiv_eq_ediv_of_nonneg h1, show a / 260 = 0 by omega]
    rfl
  rw [e]
  have := gl_comes (xs := xs) (w0 := w0) (d := d) hH (by omega) hQ (b.toNat - a.toNat) a.toNat a 0 m rfl (Nat.le_refl _) (by omega) (by omega) (by rw [hH.1]; rfl) (by omega) hI gx_fw.rf
  rw [show ((b.toNat : Nat) : Int) = b by omega] at this
  exact this
theorem gl_byLaw {m0 : gx_M} (hX : gx_X m0) {l h : Int} (hh : 0 ≤ h) (hQ : ∀ v m, 0 ≤ v → v ≤ h → gx_I m → gx_fw gx_stk m0 m → Q (some v) m) : ∀ (j q : Nat) (m : gx_M), 16 - q = j → q ≤ 16 → gx_I m → gx_fw gx_stk m0 m → gx_to xs w0 (d + 2) yp_m225 2 [(0, .inr 86), (1, .inl l), (2, .inl h), (3, .inl (q : Int))] [] m Q := by
  intro j
  induction j with
  | zero =>
    intro q m hj hq hI hf
    have hb := gx_I_n hI 86 13 0 16 (by decide +kernel)
    exact gt225_2 hI (by omega) (fun _ => hQ _ m (by omega) hh hI hf) (fun c => by omega) (fun c => by omega)
  | succ j ih =>
    intro q m hj hq hI hf
    have hrec : ∀ m', gx_I m' → gx_fw gx_stk m0 m' → gx_to xs w0 (d + 2) yp_m225 2 [(0, .inr 86), (1, .inl l), (2, .inl h), (3, .inl ((q : Int) + 1))] [] m' Q := fun m' h1 h2 => by
      have := ih (q + 1) m' (by omega) (by omega) h1 h2
      rw [show ((q + 1 : Nat) : Int) = (q : Int) + 1 by omega] at this
      exact this
    refine gt225_2 hI (by omega) (fun _ => hQ _ m (by omega) hh hI hf) (fun _ _ => hrec m hI hf) (fun c _ => ?_)
    obtain ⟨w1, w2⟩ := gx_X_c.fw hf (by decide) hX q (by omega) c
    rw [Int.toNat_natCast]
    refine gc_comes w2 hI (fun v m' hI' hf' => gt225_36 (by omega) (fun _ => ?_) (fun _ => hrec m' hI' (hf.tr hf')))
    have w1' : gx_wf (m' 97) (m' 99 q) (m' 100 q) := by
      rw [gx_stk97 hf' (by decide : (97 : Nat) ≠ 102), gx_stk97 hf' (by decide : (99 : Nat) ≠ 102), gx_stk97 hf' (by decide : (100 : Nat) ≠ 102)]
      exact w1
    rw [Int.toNat_natCast]
    exact gc_comes w1' hI' (fun v m'' hI'' hf'' => gt225_59 (fun c1 c2 => hQ _ m'' c1 c2 hI'' ((hf.tr hf').tr hf'')) (fun _ _ => hQ _ m'' hh (Int.le_refl _) hI'' ((hf.tr hf').tr hf'')) (fun _ => hQ _ m'' (Int.le_refl _) hh hI'' ((hf.tr hf').tr hf'')))
theorem gc_byLaw (hX : gx_X m) (hI : gx_I m) {l h : Int} (hh : 0 ≤ h) (hQ : ∀ v m', 0 ≤ v → v ≤ h → gx_I m' → gx_fw gx_stk m m' → Q (some v) m') : gx_to xs w0 (d + 2) yp_m225 0 [(0, .inr 86), (1, .inl l), (2, .inl h)] [] m Q :=
  gt225_0 (gl_byLaw hX hh hQ 16 0 m rfl (by omega) hI gx_fw.rf)
theorem gk_byLaw (h : Int) (hh : 0 ≤ h) : bx_Kok yp_P xs bw_INV (gx_XW gx_X) (225, 0, [(0, (2, 86, 0)), (1, (0, (-2147483648), 2147483647)), (2, (0, h, h))], [], [(some (some (0, 0, h)), 0, [], [])], [(102, 0, 260)], [3, 4], 3, none) := by
  refine gx_K_of rfl rfl (fun M w0 v m hM hv hI hX _ => ?_)
  cases (Option.some.inj (hM.symm.trans rfl) : M = yp_m225)
  match v, hv with
  | x1 :: x2 :: r, hv =>
    have e : x2 = h := by
      have h1 : h ≤ x2 := hv.2.1.2.1
      have h2 : x2 ≤ h := hv.2.1.2.2
      omega
    subst e
    exact gc_byLaw (d := 1) hX hI hh (fun v m' h1 h2 hI' hf _ => ⟨⟨rfl, h1, h2⟩, hI', gx_X_c.fw hf (by decide) hX, hf⟩)
def gx_feel : bx_M := [(102, 0, 260), (103, 0, 14)]
theorem gx_stk_feel {m m' : gx_M} (h : gx_fw gx_stk m m') : gx_fw gx_feel m m' := h.sub (fun q hq => ⟨q, by rw [gx_stk, List.mem_singleton] at hq; subst hq; exact List.mem_cons_self, rfl, Nat.le_refl _, Nat.le_refl _⟩)
theorem gc_feels (h : bw_H1 xs (gx_XW gx_X)) (hI : gx_I m) (hX : gx_X m) {y p c : Int} (hy : 0 ≤ y ∧ y ≤ 39) (hp : -2 ≤ p ∧ p ≤ 7) (hc : -2147483648 ≤ c ∧ c ≤ 2147483647) (hQ : ∀ m', gx_I m' → gx_X m' → gx_fw gx_feel m m' → Q none m') : gx_to xs w0 (d + 3) yp_m202 0 [(0, .inr 86), (1, .inl y), (2, .inl p), (3, .inl c)] [] m Q :=
  gx_K (bp_153 h) rfl (by omega) (by decide +kernel) rfl ⟨⟨rfl, rfl⟩, ⟨rfl, hy⟩, ⟨rfl, hp⟩, ⟨rfl, hc⟩, trivial⟩ hI hX (fun r m' he hI' hX' hf => by
    rw [gx_end_0 he]
    exact hQ m' hI' hX' (hf.sub (fun q hq => ⟨q, List.mem_cons_of_mem _ hq, rfl, Nat.le_refl _, Nat.le_refl _⟩)))
theorem gl_isBarred {m0 : gx_M} (hQ : ∀ v m, v = 0 ∨ v = 1 → gx_I m → gx_X m → gx_fw gx_feel m0 m → Q (some v) m) : ∀ (j q : Nat) (m : gx_M), 16 - q = j → q ≤ 16 → gx_I m → gx_X m → gx_fw gx_feel m0 m → gx_to xs w0 (d + 2) yp_m201 10 [(0, .inr 86), (4, .inl (q : Int))] [] m Q := by
  intro j
  induction j with
  | zero =>
    intro q m hj hq hI hX hf
    have hb := gx_I_n hI 86 13 0 16 (by decide +kernel)
    exact gt201_10 hI (by omega) (fun _ => hQ _ m (.inl rfl) hI hX hf) (fun c => by omega) (fun c => by omega)
  | succ j ih =>
    intro q m hj hq hI hX hf
    have hrec : ∀ m', gx_I m' → gx_X m' → gx_fw gx_feel m0 m' → gx_to xs w0 (d + 2) yp_m201 10 [(0, .inr 86), (4, .inl ((q : Int) + 1))] [] m' Q := fun m' h1 h2 h3 => by
      have := ih (q + 1) m' (by omega) (by omega) h1 h2 h3
      rw [show ((q + 1 : Nat) : Int) = (q : Int) + 1 by omega] at this
      exact this
    refine gt201_10 hI (by omega) (fun _ => hQ _ m (.inl rfl) hI hX hf) (fun _ _ => hrec m hI hX hf) (fun c _ => ?_)
    obtain ⟨w1, w2⟩ := hX q (by omega) c
    rw [Int.toNat_natCast]
    exact gc_comes w2 hI (fun v m' hI' hf' => gt201_49 (by omega) (fun _ => hrec m' hI' (gx_X_c.fw hf' (by decide) hX) (hf.tr (gx_stk_feel hf'))) (fun _ => hQ _ m' (.inr rfl) hI' (gx_X_c.fw hf' (by decide) hX) (hf.tr (gx_stk_feel hf'))))
theorem gc_isBarred (h : bw_H1 xs (gx_XW gx_X)) (hI : gx_I m) (hX : gx_X m) {y p c : Int} (hy : 0 ≤ y ∧ y ≤ 39) (hp : -2 ≤ p ∧ p ≤ 7) (hc : -2147483648 ≤ c ∧ c ≤ 2147483647) (hQ : ∀ v m', v = 0 ∨ v = 1 → gx_I m' → gx_X m' → gx_fw gx_feel m m' → Q (some v) m') : gx_to xs w0 (d + 4) yp_m201 0 [(0, .inr 86), (1, .inl y), (2, .inl p), (3, .inl c)] [] m Q :=
  gt201_0 (gc_feels h hI hX hy hp hc (fun m' h1 h2 h3 => gt201_7 (gl_isBarred (fun v m'' hv g1 g2 g3 => hQ v m'' hv g1 g2 g3) 16 0 m' rfl (by omega) h1 h2 h3)))
theorem gk_isBarred (h : bw_H1 xs (gx_XW gx_X)) : bx_Kok yp_P xs bw_INV (gx_XW gx_X) bk_152 := by
  refine gx_K_of (by decide) rfl (fun M w0 v m hM hv hI hX _ => ?_)
  cases (Option.some.inj (hM.symm.trans rfl) : M = yp_m201)
  match v, hv with
  | x1 :: x2 :: x3 :: r, hv =>
    have h1 : 0 ≤ x1 ∧ x1 ≤ 39 := hv.1.2
    have h2 : 0 ≤ x2 ∧ x2 ≤ 7 := hv.2.1.2
    exact gc_isBarred (d := 2) h hI hX h1 (by omega) hv.2.2.1.2 (fun v m' hv hI' hX' hf _ => ⟨⟨rfl, by show 0 ≤ v; omega, by show v ≤ 1; omega⟩, hI', hX', hf⟩)
theorem gc_worthOf (h : bw_H1 xs (gx_XW gx_X)) (hI : gx_I m) (hX : gx_X m) {y p : Int} (hy : 0 ≤ y ∧ y ≤ 39) (hp : -2 ≤ p ∧ p ≤ 7) (hQ : ∀ v m', 0 ≤ v → v ≤ 999 → gx_I m' → gx_X m' → gx_fw gx_feel m m' → Q (some v) m') : gx_to xs w0 (d + 4) yp_m224 0 [(0, .inr 86), (1, .inl y), (2, .inl p)] [] m Q :=
  gt224_0 (gc_feels h hI hX hy hp (by omega) (fun m' h1 h2 h3 => gt224_7 (gc_byLaw (d := d + 1) h2 h1 (by omega) (fun v m'' v1 v2 g1 g2 => gt224_16 (hQ v m'' v1 v2 g1 (gx_X_c.fw g2 (by decide) h2) (h3.tr (gx_stk_feel g2)))))))
end GCM
