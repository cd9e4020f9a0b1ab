/-! what is asked of the law, by both -/
def cLf (m m' : gx_M) : Prop := ∀ c k, c ≠ 51 → ¬ (c = 44 ∧ 9 ≤ k ∧ k ≤ 11) → m' c k = m c k
theorem cLf_L {m m' : gx_M} (h : cLf m m') : hAg hPL m m' := by
  intro q hq k h1 h2
  refine h q.1 k ?_ ?_
  · rcases List.mem_cons.mp hq with rfl | hq
    · decide
    simp only [List.mem_cons, List.not_mem_nil, or_false] at hq
    rcases hq with rfl | rfl | rfl | rfl | rfl | rfl | rfl | rfl | rfl | rfl | rfl | rfl <;> decide
  · rcases List.mem_cons.mp hq with rfl | hq
    · dsimp only at h1 h2 ⊢
      omega
    simp only [List.mem_cons, List.not_mem_nil, or_false] at hq
    rcases hq with rfl | rfl | rfl | rfl | rfl | rfl | rfl | rfl | rfl | rfl | rfl | rfl <;> (dsimp only; omega)
def fstI (o : Option Nat) : Int := match o with
  | some j => (j : Int)
  | none => -1
theorem lHol_no {CL : List hCl} {rc : (Int → Int) → Nat → Option Int} {env : Int → Int} {kind : Int} {i : Nat} {c : hCl} (hc : CL[i]? = some c) (h : c.1 ≠ kind ∨ rc env i ≠ some 1) : lHol CL rc env kind i = false := by
  unfold lHol
  rw [hc]
  dsimp only
  rw [Bool.and_eq_false_iff, decide_eq_false_iff_not, decide_eq_false_iff_not]
  exact h
theorem lHol_yes {CL : List hCl} {rc : (Int → Int) → Nat → Option Int} {env : Int → Int} {kind : Int} {i : Nat} {c : hCl} (hc : CL[i]? = some c) (h : c.1 = kind) (h2 : rc env i = some 1) : lHol CL rc env kind i = true := by
  unfold lHol
  rw [hc]
  dsimp only
  rw [decide_eq_true h, decide_eq_true h2]
  rfl
theorem lFst_no {P : Nat → Bool} {i d : Nat} (h : P i = false) : lFst P i (d + 1) = lFst P (i + 1) d := by
  show (if P i = true then some i else lFst P (i + 1) d) = _
  rw [if_neg (by rw [h]; decide)]
theorem lFst_yes {P : Nat → Bool} {i d : Nat} (h : P i = true) : lFst P i (d + 1) = some i := if_pos h
theorem lFst_at {P : Nat → Bool} : ∀ {d k j : Nat}, lFst P k d = some j → P j = true ∧ k ≤ j ∧ j < k + d
  | 0, k, j, h => by cases h
  | d + 1, k, j, h => by
    by_cases c : P k = true
    · rw [lFst_yes c] at h
      cases h
      exact ⟨c, Nat.le_refl _, by omega⟩
    · rw [lFst_no (by simpa using c)] at h
      have := lFst_at h
      exact ⟨this.1, by omega, by omega⟩
theorem is01_g {r : Option Int} (h : is01 r) : (r.getD 0 = 0 ∧ r ≠ some 1) ∨ (r.getD 0 = 1 ∧ r = some 1) := by
  rcases h with e | e | e <;> subst e
  · exact .inl ⟨rfl, by decide⟩
  · exact .inl ⟨rfl, by decide⟩
  · exact .inr ⟨rfl, rfl⟩
section ASK
variable {xs : List Int32} {n bk : Nat} {Q : hQ} {m0 : gx_M} {K : hCode} {CL : List hCl} {rc re : (Int → Int) → Nat → Option Int} {env : Int → Int} {kind : Int}
theorem lg_some {i : Nat} (h : i < CL.length) : ∃ c, CL[i]? = some c := ⟨CL[i], List.getElem?_eq_getElem h⟩
theorem c57l (hL : cLw K CL m0) (ho : lOrd CL) (hS : lSem xs K CL rc re) (hE : lEnvC bk xs m0 env) : ∀ d i : Nat, i + d = CL.length → (∀ m', (∀ c', c' ≠ 51 → m' c' = m0 c') → Q (some (.inl (fstI (lFst (lHol CL rc env kind) i d)))) m') → ∀ m : gx_M, (∀ c', c' ≠ 51 → m c' = m0 c') → hxn xs n yp_m57 2 [(0, .inr (.inl 44)), (1, .inr (.inl bk)), (2, .inl kind), (3, .inl (i : Int))] [] m Q := by
  intro d
  induction d with
  | zero =>
    intro i hi hQ m hm
    have e7 : m 44 7 = (CL.length : Int) := by rw [hm 44 (by decide)]; exact hL.1
    exact hx_dn (hr57_2 (fun _ => hQ m hm) (fun c => absurd c (by omega)) (fun c => absurd c (by omega)) (fun c => absurd c (by omega)))
  | succ d ih =>
    intro i hi hQ m hm
    have e7 : m 44 7 = (CL.length : Int) := by rw [hm 44 (by decide)]; exact hL.1
    have h16 := ho.1
    obtain ⟨c, hc⟩ := lg_some (CL := CL) (i := i) (by omega)
    obtain ⟨q1, q2, q3, q4⟩ := hL.2.2 i c hc
    obtain ⟨o1, o2, o3, o4⟩ := ho.2 i c hc
    obtain ⟨s1, s2, -⟩ := hS env i c hc
    have next : lHol CL rc env kind i = false → ∀ m', (∀ c', c' ≠ 51 → m' c' = m0 c') → hxn xs n yp_m57 2 [(0, .inr (.inl 44)), (1, .inr (.inl bk)), (2, .inl kind), (3, .inl (gx_w ((i : Int) + 1)))] [] m' Q := fun hf m' hm' => by
      rw [ew_u (by omega)]
      refine ih (i + 1) (by omega) (fun m2 h2 => ?_) m' hm'
      have := hQ m2 h2
      rw [lFst_no hf] at this
      exact this
    refine hx_dn (hr57_2 (fun c => absurd c (by omega)) (fun _ c => absurd c (by omega)) (fun _ _ c => ?_) (fun _ _ c => ?_))
    · rw [Int.toNat_natCast, hm 47 (by decide), q1] at c
      exact next (lHol_no hc (.inl c)) m hm
    · rw [Int.toNat_natCast, hm 47 (by decide), q1] at c
      rw [Int.toNat_natCast, hm 49 (by decide), hm 50 (by decide), q3, q4]
      refine cRun (s2.1 bk m0 hL.2.1 hE) o4 (fun m' hm' => ?_) hm
      rcases is01_g s1 with ⟨z1, z2⟩ | ⟨z1, z2⟩
      · rw [z1]
        exact hx_dn (hr57_43 (s0 := 0) (fun _ => next (lHol_no hc (.inr z2)) m' hm') (fun c => absurd rfl c))
      · rw [z1]
        refine hx_dn (hr57_43 (s0 := 1) (fun c => absurd c (by decide)) (fun _ => ?_))
        have := hQ m' hm'
        rw [lFst_yes (lHol_yes hc c z2)] at this
        exact this
theorem c57 (hL : cLw K CL m0) (ho : lOrd CL) (hS : lSem xs K CL rc re) (hE : lEnvC bk xs m0 env) (hQ : ∀ m', (∀ c', c' ≠ 51 → m' c' = m0 c') → Q (some (.inl (fstI (lFst (lHol CL rc env kind) 0 CL.length)))) m') : hxn xs n yp_m57 0 [(0, .inr (.inl 44)), (1, .inr (.inl bk)), (2, .inl kind)] [] m0 Q :=
  hx_dn (hr57_0 (c57l hL ho hS hE CL.length 0 (by omega) hQ m0 (fun _ _ => rfl)))
theorem cLf_ask {m m' : gx_M} {y p z : Int} (h : ∀ c', c' ≠ 51 → m' c' = (gx_u (gx_u (gx_u m 44 9 y) 44 10 p) 44 11 z) c') : cLf m m' := fun c k h1 h2 => by
  rw [h c h1, gx_u_ne (by omega), gx_u_ne (by omega), gx_u_ne (by omega)]
theorem cFrb {W : (Int → Int) → Int → Option Int} {m : gx_M} {y p z : Int} (hL : lawR xs W m) (hE : ∀ m1 : gx_M, cLf m m1 → m1 44 9 = y → m1 44 10 = p → m1 44 11 = z → lEnvC bk xs m1 env) (hQ : ∀ m', cLf m m' → Q (some (.inl (if (W env 110).isSome = true then 1 else 0))) m') : hxn xs n yp_m55 0 [(0, .inr (.inl 44)), (1, .inr (.inl bk)), (2, .inl y), (3, .inl p), (4, .inl z)] [] m Q := by
  obtain ⟨K, CL, rc, re, h1, ho, hc, -, hS, rfl⟩ := hL
  refine hx_dn (hr55_0 (hx_dn (hr56_0 ?_)))
  have hf : cLf m (gx_u (gx_u (gx_u m 44 9 y) 44 10 p) 44 11 z) := cLf_ask (fun _ _ => rfl)
  have hE1 := hE _ hf (by rw [gx_u_ne (by omega), gx_u_ne (by omega), gx_u_self]) (by rw [gx_u_ne (by omega), gx_u_self]) gx_u_self
  refine hx_dn (hr55_8 (c57 (cLw_c (cLf_L hf) h1 ho.1 hc) ho hS hE1 (fun m' hm' => ?_)))
  have := hQ m' (cLf_ask hm')
  unfold lRes at this
  revert this
  cases lFst (lHol CL rc env 110) 0 CL.length with
  | none =>
    intro h
    exact hx_dn (hr55_15 (b := bk) (s0 := -1) (fun _ => h) (fun c => absurd rfl c))
  | some j =>
    intro h
    exact hx_dn (hr55_15 (b := bk) (s0 := (j : Int)) (fun c => absurd c (by omega)) (fun _ => h))
def lHi (kind : Int) : Int := if kind = 102 then 10 else if kind = 105 then 99 else 999
theorem cAmt {W : (Int → Int) → Int → Option Int} {m : gx_M} {y p z : Int} (hk : kind ≠ 110) (hL : lawR xs W m) (hE : ∀ m1 : gx_M, cLf m m1 → m1 44 9 = y → m1 44 10 = p → m1 44 11 = z → lEnvC bk xs m1 env) (hQ : ∀ m', cLf m m' → Q (some (.inl (lClip (lHi kind) (W env kind)))) m') : hxn xs n yp_m82 0 [(0, .inr (.inl 44)), (1, .inr (.inl bk)), (2, .inl kind), (3, .inl y), (4, .inl p), (5, .inl z)] [] m Q := by
  obtain ⟨K, CL, rc, re, h1, ho, hc, -, hS, rfl⟩ := hL
  refine hx_dn (hr82_0 (hx_dn (hr56_0 ?_)))
  obtain ⟨M, hM⟩ : ∃ M, M = gx_u (gx_u (gx_u m 44 9 y) 44 10 p) 44 11 z := ⟨_, rfl⟩
  rw [← hM]
  have hf : cLf m M := by
    rw [hM]
    exact cLf_ask (fun _ _ => rfl)
  have hE1 := hE M hf (by rw [hM, gx_u_ne (by omega), gx_u_ne (by omega), gx_u_self]) (by rw [hM, gx_u_ne (by omega), gx_u_self]) (by rw [hM]; exact gx_u_self)
  have hcM := cLw_c (cLf_L hf) h1 ho.1 hc
  refine hx_dn (hr82_9 (c57 hcM ho hS hE1 (fun m' hm' => ?_)))
  have fin : ∀ m2 : gx_M, (∀ c', c' ≠ 51 → m2 c' = M c') → cLf m m2 := fun m2 h2 => cLf_ask (fun c' hc' => by rw [h2 c' hc', hM])
  have hlr : lRes CL rc re env kind = match lFst (lHol CL rc env kind) 0 CL.length with
      | some i => some ((re env i).getD 0)
      | none => none := rfl
  cases hF : lFst (lHol CL rc env kind) 0 CL.length with
  | none =>
    rw [hF] at hlr
    have := hQ m' (fin m' hm')
    rw [hlr] at this
    exact hx_dn (hr82_15 (s0 := -1) (fun _ => this) (fun c => absurd c (by decide)) (fun c => absurd c (by decide)))
  | some j =>
    rw [hF] at hlr
    obtain ⟨hP, -, hj⟩ := lFst_at hF
    have h16 := ho.1
    obtain ⟨c, hcj⟩ := lg_some (CL := CL) (i := j) (by omega)
    have hck : c.1 = kind := by
      unfold lHol at hP
      rw [hcj] at hP
      dsimp only at hP
      rw [Bool.and_eq_true, decide_eq_true_eq] at hP
      exact hP.1
    obtain ⟨q1, q2, q3, q4⟩ := hcM.2.2 j c hcj
    obtain ⟨o1, o2, o3, o4⟩ := ho.2 j c hcj
    obtain ⟨-, -, s3⟩ := hS env j c hcj
    have fin2 : ∀ v : Int, 0 ≤ v → v = lHi kind → hxn xs n yp_m82 36 [(0, .inr (.inl 44)), (1, .inr (.inl bk)), (6, .inl (j : Int))] [.inl v, .inl 0] m' Q := fun v hv0 hv => by
      refine hx_dn (hr82_36 ?_)
      rw [Int.toNat_natCast, hm' 48 (by decide), hm' 49 (by decide), q2, q3]
      refine cRun ((s3 (by rw [hck]; exact hk)).1 bk M hcM.2.1 hE1) (by omega) (fun m2 h2 => ?_) hm'
      refine hx_dn (hr82_55 (b := bk) ?_)
      have := hQ m2 (fin m2 h2)
      rw [hlr] at this
      have e : (if (0 : Int) < (if (re env j).getD 0 < v then (re env j).getD 0 else v) then (if (re env j).getD 0 < v then (re env j).getD 0 else v) else 0) = lClip (lHi kind) (some ((re env j).getD 0)) := by
        unfold lClip
        rw [← hv]
        dsimp only
        split <;> split <;> split <;> first | omega | (split <;> omega)
      rw [e]
      exact this
    refine hx_dn (hr82_15 (s0 := (j : Int)) (fun c => absurd c (by omega)) (fun _ _ => ?_) (fun _ c => absurd c (by omega)))
    refine hx_dn (hr83_0 (fun a => ?_) (fun a b => ?_) (fun a b => ?_))
    · exact fin2 10 (by decide) (by unfold lHi; rw [if_pos a])
    · exact fin2 99 (by decide) (by unfold lHi; rw [if_neg a, if_pos b])
    · exact fin2 999 (by decide) (by unfold lHi; rw [if_neg a, if_neg b])
/-! the reference -/
theorem r225l {high : Int} (hh : 0 ≤ high) (hk : kind ≠ 110) (hL : rLw K CL m0) (ho : lOrd CL) (hS : lSem xs K CL rc re) (hE : lEnvR m0 env) : ∀ d i : Nat, i + d = CL.length → (∀ m', (∀ c', c' ≠ 102 → m' c' = m0 c') → Q (some (.inl (lClip high (match lFst (lHol CL rc env kind) i d with | some i => some ((re env i).getD 0) | none => none)))) m') → ∀ m : gx_M, (∀ c', c' ≠ 102 → m c' = m0 c') → hxn xs n yp_m225 2 [(0, .inr (.inl 86)), (1, .inl kind), (2, .inl high), (3, .inl (i : Int))] [] m Q := by
  intro d
  induction d with
  | zero =>
    intro i hi hQ m hm
    have e7 : m 86 13 = (CL.length : Int) := by rw [hm 86 (by decide)]; exact hL.1
    exact hx_dn (hr225_2 (fun _ => hQ m hm) (fun c => absurd c (by omega)) (fun c => absurd c (by omega)))
  | succ d ih =>
    intro i hi hQ m hm
    have e7 : m 86 13 = (CL.length : Int) := by rw [hm 86 (by decide)]; exact hL.1
    have h16 := ho.1
    obtain ⟨c, hc⟩ := lg_some (CL := CL) (i := i) (by omega)
    obtain ⟨q1, q2, q3, q4⟩ := hL.2.2 i c hc
    obtain ⟨o1, o2, o3, o4⟩ := ho.2 i c hc
    obtain ⟨s1, s2, s3⟩ := hS env i c hc
    have next : lHol CL rc env kind i = false → ∀ m', (∀ c', c' ≠ 102 → m' c' = m0 c') → hxn xs n yp_m225 2 [(0, .inr (.inl 86)), (1, .inl kind), (2, .inl high), (3, .inl (gx_w ((i : Int) + 1)))] [] m' Q := fun hf m' hm' => by
      rw [ew_u (by omega)]
      refine ih (i + 1) (by omega) (fun m2 h2 => ?_) m' hm'
      have := hQ m2 h2
      rw [lFst_no hf] at this
      exact this
    refine hx_dn (hr225_2 (fun c => absurd c (by omega)) (fun _ c => ?_) (fun _ c => ?_))
    · rw [Int.toNat_natCast, hm 98 (by decide), q1] at c
      exact next (lHol_no hc (.inl c)) m hm
    · rw [Int.toNat_natCast, hm 98 (by decide), q1] at c
      rw [Int.toNat_natCast, hm 100 (by decide), hm 101 (by decide), q3, q4]
      refine rRun (s2.2 m0 hL.2.1 hE) (by omega) o4 (fun m' hm' => ?_) hm
      rcases is01_g s1 with ⟨z1, z2⟩ | ⟨z1, z2⟩
      · rw [z1]
        exact hx_dn (hr225_36 (s0 := 0) (fun c => absurd c (by decide)) (fun _ => next (lHol_no hc (.inr z2)) m' hm'))
      · rw [z1]
        refine hx_dn (hr225_36 (s0 := 1) (fun _ => ?_) (fun c => absurd rfl c))
        rw [Int.toNat_natCast, hm' 99 (by decide), hm' 100 (by decide), q2, q3]
        refine rRun ((s3 (by rw [c]; exact hk)).2 m0 hL.2.1 hE) (by omega) (by omega) (fun m2 h2 => ?_) hm'
        have := hQ m2 h2
        rw [lFst_yes (lHol_yes hc c z2)] at this
        dsimp only [lClip] at this
        refine hx_dn (hr225_59 (fun a b => ?_) (fun a b => ?_) (fun a => ?_))
        · rw [if_neg (by omega), if_neg (by omega)] at this
          exact this
        · rw [if_neg (by omega), if_pos b] at this
          exact this
        · rw [if_pos a] at this
          exact this
theorem rBy {W : (Int → Int) → Int → Option Int} {high : Int} (hh : 0 ≤ high) (hk : kind ≠ 110) (hL : lawR xs W m0) (hE : lEnvR m0 env) (hQ : ∀ m', (∀ c', c' ≠ 102 → m' c' = m0 c') → Q (some (.inl (lClip high (W env kind)))) m') : hxn xs n yp_m225 0 [(0, .inr (.inl 86)), (1, .inl kind), (2, .inl high)] [] m0 Q := by
  obtain ⟨K, CL, rc, re, h1, ho, -, hr, hS, rfl⟩ := hL
  exact hx_dn (hr225_0 (r225l hh hk hr ho hS hE CL.length 0 (by omega) hQ m0 (fun _ _ => rfl)))
theorem r201l (hL : rLw K CL m0) (ho : lOrd CL) (hS : lSem xs K CL rc re) (hE : lEnvR m0 env) : ∀ d i : Nat, i + d = CL.length → (∀ m', (∀ c', c' ≠ 102 → m' c' = m0 c') → Q (some (.inl (if (lFst (lHol CL rc env 110) i d).isSome = true then 1 else 0))) m') → ∀ m : gx_M, (∀ c', c' ≠ 102 → m c' = m0 c') → hxn xs n yp_m201 10 [(0, .inr (.inl 86)), (4, .inl (i : Int))] [] m Q := by
  intro d
  induction d with
  | zero =>
    intro i hi hQ m hm
    have e7 : m 86 13 = (CL.length : Int) := by rw [hm 86 (by decide)]; exact hL.1
    exact hx_dn (hr201_10 (fun _ => hQ m hm) (fun c => absurd c (by omega)) (fun c => absurd c (by omega)))
  | succ d ih =>
    intro i hi hQ m hm
    have e7 : m 86 13 = (CL.length : Int) := by rw [hm 86 (by decide)]; exact hL.1
    have h16 := ho.1
    obtain ⟨c, hc⟩ := lg_some (CL := CL) (i := i) (by omega)
    obtain ⟨q1, q2, q3, q4⟩ := hL.2.2 i c hc
    obtain ⟨o1, o2, o3, o4⟩ := ho.2 i c hc
    obtain ⟨s1, s2, -⟩ := hS env i c hc
    have next : lHol CL rc env 110 i = false → ∀ m', (∀ c', c' ≠ 102 → m' c' = m0 c') → hxn xs n yp_m201 10 [(0, .inr (.inl 86)), (4, .inl (gx_w ((i : Int) + 1)))] [] m' Q := fun hf m' hm' => by
      rw [ew_u (by omega)]
      refine ih (i + 1) (by omega) (fun m2 h2 => ?_) m' hm'
      have := hQ m2 h2
      rw [lFst_no hf] at this
      exact this
    refine hx_dn (hr201_10 (fun c => absurd c (by omega)) (fun _ c => ?_) (fun _ c => ?_))
    · rw [Int.toNat_natCast, hm 98 (by decide), q1] at c
      exact next (lHol_no hc (.inl c)) m hm
    · rw [Int.toNat_natCast, hm 98 (by decide), q1] at c
      rw [Int.toNat_natCast, hm 100 (by decide), hm 101 (by decide), q3, q4]
      refine rRun (s2.2 m0 hL.2.1 hE) (by omega) o4 (fun m' hm' => ?_) hm
      rcases is01_g s1 with ⟨z1, z2⟩ | ⟨z1, z2⟩
      · rw [z1]
        exact hx_dn (hr201_49 (s0 := 0) (fun _ => next (lHol_no hc (.inr z2)) m' hm') (fun c => absurd c (by decide)))
      · rw [z1]
        refine hx_dn (hr201_49 (s0 := 1) (fun c => absurd rfl c) (fun _ => ?_))
        have := hQ m' hm'
        rw [lFst_yes (lHol_yes hc c z2)] at this
        exact this
end ASK
/-! the facts laid out, and what stands then -/
def rLf (m m' : gx_M) : Prop := ∀ c, c ≠ 102 → c ≠ 103 → m' c = m c
theorem rLf_L {m m' : gx_M} (h : rLf m m') : hAg hPL m m' := by
  intro q hq k h1 h2
  have e : m' q.1 = m q.1 := by
    refine h q.1 ?_ ?_
    · simp only [hPL, List.mem_cons, List.not_mem_nil, or_false] at hq
      rcases hq with rfl | rfl | rfl | rfl | rfl | rfl | rfl | rfl | rfl | rfl | rfl | rfl | rfl <;> decide
    · simp only [hPL, List.mem_cons, List.not_mem_nil, or_false] at hq
      rcases hq with rfl | rfl | rfl | rfl | rfl | rfl | rfl | rfl | rfl | rfl | rfl | rfl | rfl <;> decide
  rw [e]
section FEZ
variable {xs : List Int32} {n : Nat} {Q : hQ} {m : gx_M} {p z : Int}
theorem lfa_14 {c : Int} (h : isLt c) : (lfa c).toNat < 14 := by
  unfold isLt at h
  unfold lfa
  omega
theorem hs203z (hp : 0 ≤ p ∧ p < 8) (hT : ∀ y, y < 40 → m 87 (440 + y) = 0 ∨ m 87 (440 + y) = 1) (h : ∀ m', (∀ c, c ≠ 103 → m' c = m c) → (∀ k, k < 14 → m' 103 k = fctP (m 87) p k) → Q none m') : hxn xs n yp_m203 0 [(0, .inr (.inl 86)), (1, .inl p)] [] m Q := by
  have hl : ∀ d k : Nat, k + d = 14 → ∀ m1 : gx_M, (∀ c, c ≠ 103 → m1 c = m c) → (∀ j, j < k → m1 103 j = 0) → hxn xs n yp_m203 2 [(0, .inr (.inl 86)), (1, .inl p), (2, .inl (k : Int))] [] m1 Q := by
    intro d
    induction d with
    | zero =>
      intro k hk m1 hm hz
      have e : k = 14 := by omega
      subst e
      refine hx_dn (hr203_2 (fun _ => ?_) (fun c => absurd c (by omega)))
      have e87 : (gx_u (gx_u m1 103 0 (m1 87 1129)) 103 9 p) 87 = m 87 := by
        rw [gx_u_off (by decide), gx_u_off (by decide)]
        exact hm 87 (by decide)
      refine hs204 (by rw [e87]; exact hT) ?_
      rw [e87]
      show hxn xs n yp_m203 54 _ [.inl _, .inl 10, .inr (.inl 103)] _ Q
      refine hx_dn (hr203_54 ?_)
      have e2 : (gx_w (1120 + p)).toNat = 1120 + p.toNat := by
        rw [gx_w_id (by omega) (by omega)]
        omega
      rw [e87, e2, hm 87 (by decide)]
      refine h _ (fun c hc => ?_) (fun k hk => ?_)
      · rw [gx_u_off hc, gx_u_off hc, gx_u_off hc, gx_u_off hc]
        exact hm c hc
      · have hz' := hz k hk
        have hk' : k = 0 ∨ k = 1 ∨ k = 2 ∨ k = 3 ∨ k = 4 ∨ k = 5 ∨ k = 6 ∨ k = 7 ∨ k = 8 ∨ k = 9 ∨ k = 10 ∨ k = 11 ∨ k = 12 ∨ k = 13 := by omega
        rcases hk' with e | e | e | e | e | e | e | e | e | e | e | e | e | e <;> subst e <;> simp [gx_u, fctP, hz']
    | succ d ih =>
      intro k hk m1 hm hz
      refine hx_dn (hr203_2 (fun c => absurd c (by omega)) (fun _ => ?_))
      rw [ew_u (by omega), Int.toNat_natCast]
      refine ih (k + 1) (by omega) _ (fun c hc => by rw [gx_u_off hc]; exact hm c hc) (fun j hj => ?_)
      by_cases e : j = k
      · subst e
        exact gx_u_self
      · rw [gx_u_ne (by omega)]
        exact hz j (by omega)
  exact hx_dn (hr203_0 (hl 14 0 rfl m (fun _ _ => rfl) (fun j hj => absurd hj (by omega))))
theorem rEnv0 {m' : gx_M} {s : Nat → Int} (h : ∀ k, k < 14 → m' 103 k = fctP s p k) : lEnvR m' (env0 s p) := fun c hc => h _ (lfa_14 hc)
theorem rEnv1 {m' : gx_M} {s : Nat → Int} {y : Nat} (h : ∀ k, k < 14 → m' 103 k = fct s y p z k) : lEnvR m' (env1 s y p z) := fun c hc => h _ (lfa_14 hc)
/-- isBarred -/
theorem rBar {W : (Int → Int) → Int → Option Int} {y : Nat} (hL : lawR xs W m) (hs : sOK (m 87)) (hy : y < 40) (hp : 0 ≤ p ∧ p < 8) (hQ : ∀ m', rLf m m' → Q (some (.inl (if (W (env1 (m 87) y p z) 110).isSome = true then 1 else 0))) m') : hxn xs n yp_m201 0 [(0, .inr (.inl 86)), (1, .inl (y : Int)), (2, .inl p), (3, .inl z)] [] m Q := by
  refine hx_dn (hr201_0 (hs202 hy hp hs.there hs.skl hs.met (fun m1 g1 g2 => ?_)))
  have f1 : rLf m m1 := fun c _ h2 => g1 c h2
  have hL1 := lawR_c (rLf_L f1) hL
  obtain ⟨K, CL, rc, re, h1, ho, -, hr, hS, rfl⟩ := hL1
  refine hx_dn (hr201_7 ?_)
  refine r201l hr ho hS (rEnv1 g2) CL.length 0 (by omega) (fun m' hm' => ?_) m1 (fun _ _ => rfl)
  have := hQ m' (fun c a b => (hm' c a).trans (g1 c b))
  unfold lRes at this
  revert this
  cases lFst (lHol CL rc (env1 (m 87) y p z) 110) 0 CL.length with
  | none => exact id
  | some j => exact id
/-- worthOf -/
theorem rWor {W : (Int → Int) → Int → Option Int} {y : Nat} (hL : lawR xs W m) (hs : sOK (m 87)) (hy : y < 40) (hp : 0 ≤ p ∧ p < 8) (hQ : ∀ m', rLf m m' → Q (some (.inl (lClip 999 (W (env1 (m 87) y p 0) 118)))) m') : hxn xs n yp_m224 0 [(0, .inr (.inl 86)), (1, .inl (y : Int)), (2, .inl p)] [] m Q := by
  refine hx_dn (hr224_0 (hs202 hy hp hs.there hs.skl hs.met (fun m1 g1 g2 => ?_)))
  have f1 : rLf m m1 := fun c _ h2 => g1 c h2
  have hL1 := lawR_c (rLf_L f1) hL
  refine hx_dn (hr224_7 (rBy (by decide) (by decide) hL1 (rEnv1 g2) (fun m' hm' => ?_)))
  exact hx_dn (hr224_16 (hQ m' (fun c a b => (hm' c a).trans (g1 c b))))
end FEZ
/-! the class, over the book and over the trial's -/
section CLB
variable {xs : List Int32} {n : Nat} {Q : hQ} {m : gx_M} {p z : Int} {s : Nat → Int} {W : (Int → Int) → Int → Option Int} {y : Nat}
theorem cLf_b {b : Nat} {m1 : gx_M} (hb : b = 5 ∨ b = 31) (h : cLf m m1) (hB : sBk b s m) : sBk b s m1 := sBk_c (fun c h1 h2 => funext (fun k => h c k (by omega) (by omega))) hB
theorem lE_1 {b : Nat} {m1 : gx_M} (hb : b = 5 ∨ b = 31) (hs : sOK s) (hB : sBk b s m) (hy : y < 40) (hp : 0 ≤ p ∧ p < 8) (hf : cLf m m1) (h9 : m1 44 9 = (y : Int)) (h10 : m1 44 10 = p) (h11 : m1 44 11 = z) : lEnvC b xs m1 (env1 s y p z) := by
  have hB1 := cLf_b hb hf hB
  rcases hb with rfl | rfl
  · exact lE5_1 hs hB1 hy hp h9 h10 h11
  · exact lE31_1 hs hB1 hy hp h9 h10 h11
theorem cForb {b : Nat} (hb : b = 5 ∨ b = 31) (hL : lawR xs W m) (hs : sOK s) (hB : sBk b s m) (hy : y < 40) (hp : 0 ≤ p ∧ p < 8) (hQ : ∀ m', cLf m m' → Q (some (.inl (if (W (env1 s y p z) 110).isSome = true then 1 else 0))) m') : hxn xs n yp_m55 0 [(0, .inr (.inl 44)), (1, .inr (.inl b)), (2, .inl (y : Int)), (3, .inl p), (4, .inl z)] [] m Q :=
  cFrb hL (fun _ hf h9 h10 h11 => lE_1 hb hs hB hy hp hf h9 h10 h11) hQ
theorem cAm1 {b : Nat} {kind : Int} (hb : b = 5 ∨ b = 31) (hk : kind ≠ 110) (hL : lawR xs W m) (hs : sOK s) (hB : sBk b s m) (hy : y < 40) (hp : 0 ≤ p ∧ p < 8) (hQ : ∀ m', cLf m m' → Q (some (.inl (lClip (lHi kind) (W (env1 s y p z) kind)))) m') : hxn xs n yp_m82 0 [(0, .inr (.inl 44)), (1, .inr (.inl b)), (2, .inl kind), (3, .inl (y : Int)), (4, .inl p), (5, .inl z)] [] m Q :=
  cAmt hk hL (fun _ hf h9 h10 h11 => lE_1 hb hs hB hy hp hf h9 h10 h11) hQ
theorem cAm0 {b : Nat} {kind : Int} (hb : b = 5 ∨ b = 31) (hk : kind ≠ 110) (hL : lawR xs W m) (hs : sOK s) (hB : sBk b s m) (hp : 0 ≤ p ∧ p < 8) (hQ : ∀ m', cLf m m' → Q (some (.inl (lClip (lHi kind) (W (env0 s p) kind)))) m') : hxn xs n yp_m82 0 [(0, .inr (.inl 44)), (1, .inr (.inl b)), (2, .inl kind), (3, .inl (-1)), (4, .inl p), (5, .inl z)] [] m Q := by
  refine cAmt hk hL (fun m1 hf h9 h10 _ => ?_) hQ
  have hB1 := cLf_b hb hf hB
  rcases hb with rfl | rfl
  · exact lE5_0 hs hB1 hp h9 h10
  · exact lE31_0 hs hB1 hp h9 h10
end CLB
