/-! what is kept, put back; the law, deals, days: the whole state behind both -/
theorem hPL_of {m m' : gx_M} (h : ∀ c k, ((c = 44 ∧ k = 7) ∨ (45 ≤ c ∧ c ≤ 50) ∨ (c = 86 ∧ k = 13) ∨ (97 ≤ c ∧ c ≤ 101)) → m' c k = m c k) : hAg hPL m m' := by
  intro q hq k h1 h2
  simp only [hPL, List.mem_cons, List.not_mem_nil, or_false] at hq
  rcases hq with rfl | rfl | rfl | rfl | rfl | rfl | rfl | rfl | rfl | rfl | rfl | rfl | rfl <;> exact h _ _ (by dsimp only at h1 h2 ⊢; omega)
/-- one relation shown before, the other one with it -/
theorem hway_x {gX R1 R2 : gx_M → Prop} {xs : List Int32} {M1 M2 : sx_M} {L1 L2 : hLs} {C : hV → hV → Prop} {D : Option hV → Option hV → Prop} (h1 : hWay gX R1 xs M1 M2 L1 L2 C) (sp : ∀ n m, hJ gX m → R1 m → R2 m → hxn xs n M1 0 L1 [] m (fun r1 m1 => hxn xs n M2 0 L2 [] m1 (fun r2 m2 => R2 m2 ∧ D r1 r2))) : hWay gX (fun m => R1 m ∧ R2 m) xs M1 M2 L1 L2 (fun a b => C a b ∧ D (some a) (some b)) := fun n m j r =>
  hx_and (h1 n m j r.1) (sp n m j r.1 r.2) (fun r1 m1 ⟨v1, e1, k1⟩ k2 => ⟨v1, e1, hx_and k1 k2 (fun r2 m2 ⟨v2, e2, j2, q1, c1⟩ ⟨q2, d⟩ => ⟨v2, e2, j2, ⟨q1, q2⟩, c1, by rw [e1, e2] at d; exact d⟩)⟩)
section WC
variable {xs : List Int32} {n : Nat} {m : gx_M}
theorem ww_keep (hR : hWr xs m) : hxn xs n yp_m154 0 [(0, .inr (.inl 0))] [] m (fun _ m1 => hxn xs n yp_m269 0 [(0, .inr (.inl 86))] [] m1 (fun _ m2 => hWr xs m2)) := by
  obtain ⟨h1, h2, h3, h4, ⟨W, h5⟩, h6⟩ := hR
  refine hx_dn (hr154_0 ?_)
  refine hs71_18_5 (fun m' hC => ?_)
  obtain ⟨k0, k1, k2, k3, k4, a1, a2, a3, a4, a5, a6, a7, a8, a9, a10, a11, a12, kn⟩ := hC
  refine hx_dn (hr154_11 ?_)
  have kn' : ∀ c, (c < 18 ∨ 30 < c) → m' c = m c := fun c hc => kn c (by
    simp only [List.mem_cons, List.not_mem_nil, or_false, not_or]
    omega)
  have hB5 : sBk 5 (m 87) m' := sBk_c (fun c c1 c2 => kn' c (by omega)) h2
  have hB18 : sBk 18 (m 87) m' := by
    obtain ⟨⟨q1, q2, q3, q4, q5⟩, b2, b3, b4⟩ := h2
    refine ⟨⟨by rw [k0]; exact q1, by rw [k1]; exact q2, by rw [k2]; exact q3, by rw [k3]; exact q4, by rw [k4]; exact q5⟩, fun p hp => (a1 p hp).trans (b2 p hp), fun y hy => ?_, fun k hk => (a12 k hk).trans (b4 k hk)⟩
    obtain ⟨⟨z1, z2, z3, z4, z5⟩, z6, z7, z8, z9, z10⟩ := b3 y hy
    exact ⟨⟨(a2 y hy).trans z1, (a3 y hy).trans z2, (a4 y hy).trans z3, (a5 y hy).trans z4, (a6 y hy).trans z5⟩, (a7 y hy).trans z6, fun ht => (a8 y hy).trans (z7 ht), (a9 y hy).trans z8, (a10 y hy).trans z9, (a11 y hy).trans z10⟩
  rw [sB5_yrs hB5]
  refine hs61 (hmask_lt _ 40) ?_
  refine hx_dn (hr154_26 ?_)
  refine hx_dn (hr269_0 ?_)
  have e87 : m' 87 = m 87 := kn' 87 (by decide)
  obtain ⟨M, hM⟩ : ∃ M, M = hcopy (gx_u (gx_u m' 0 12 1) 86 47 1) 87 0 89 0 1131 := ⟨_, rfl⟩
  rw [← hM]
  have g1 : ∀ c k, c ≠ 89 → ¬ (c = 86 ∧ k = 47) → ¬ (c = 0 ∧ k = 12) → M c k = m' c k := fun c k b1 b2 b3 => by rw [hM, hcopy_ne b1, gx_u_ne b2, gx_u_ne b3]
  have g87 : M 87 = m 87 := by
    rw [← e87]
    exact funext (fun k => g1 87 k (by decide) (by omega) (by omega))
  have g89 : ∀ k, k < 1131 → M 89 k = m 87 k := fun k hk => by rw [hM, hcopy_at hk, gx_u_ne (by omega), gx_u_ne (by omega), e87]
  refine hs270 (fun y hy => by rw [g87]; exact h1.there y hy) ?_
  refine hx_dn (hr269_20 ?_)
  unfold hWr
  rw [g87]
  refine ⟨h1, sBk_c (fun c c1 c2 => funext (fun k => g1 c k (by omega) (by omega) (by omega))) hB5, ?_, fun _ => ⟨sOK_s g89 h1, sBk_s g89 (sBk_c (fun c c1 c2 => funext (fun k => g1 c k (by omega) (by omega) (by omega))) hB18)⟩, ⟨W, lawR_c (hPL_of (fun c k hc => ?_)) h5⟩, ?_⟩
  · rw [hM, hcopy_ne (by decide), gx_u_ne (by decide), gx_u_self, hcopy_ne (by decide), gx_u_self]
  · rw [g1 c k (by omega) (by omega) (by omega), kn' c (by omega)]
  · rw [g1 0 13 (by decide) (by decide) (by decide), g1 86 44 (by decide) (by decide) (by decide), kn' 0 (by decide), kn' 86 (by decide)]
    exact h6
theorem ww_undo (hR : hWr xs m) : hxn xs n yp_m155 0 [(0, .inr (.inl 0))] [] m (fun _ m1 => hxn xs n yp_m271 0 [(0, .inr (.inl 86))] [] m1 (fun _ m2 => hWr xs m2)) := by
  have hR' := hR
  obtain ⟨h1, h2, h3, h4, ⟨W, h5⟩, h6⟩ := hR
  refine hx_dn (hr155_0 (fun hk => ?_) (fun hk => hx_dn (hr271_0 (fun c => absurd (by rw [← h3]; exact hk) c) (fun _ => hR'))))
  have hkr : m 86 47 ≠ 0 := by rw [← h3]; exact hk
  obtain ⟨o1, o2⟩ := h4 hkr
  refine hs71_5_18 (fun m' hC => ?_)
  obtain ⟨k0, k1, k2, k3, k4, a1, a2, a3, a4, a5, a6, a7, a8, a9, a10, a11, a12, kn⟩ := hC
  have kn' : ∀ c, (c < 5 ∨ 17 < c) → m' c = m c := fun c hc => kn c (by
    simp only [List.mem_cons, List.not_mem_nil, or_false, not_or]
    omega)
  have hB18 : sBk 18 (m 89) m' := sBk_c (fun c c1 c2 => kn' c (by omega)) o2
  have hB5 : sBk 5 (m 89) m' := by
    obtain ⟨⟨q1, q2, q3, q4, q5⟩, b2, b3, b4⟩ := o2
    refine ⟨⟨by rw [k0]; exact q1, by rw [k1]; exact q2, by rw [k2]; exact q3, by rw [k3]; exact q4, by rw [k4]; exact q5⟩, fun p hp => (a1 p hp).trans (b2 p hp), fun y hy => ?_, fun k hk => (a12 k hk).trans (b4 k hk)⟩
    obtain ⟨⟨z1, z2, z3, z4, z5⟩, z6, z7, z8, z9, z10⟩ := b3 y hy
    exact ⟨⟨(a2 y hy).trans z1, (a3 y hy).trans z2, (a4 y hy).trans z3, (a5 y hy).trans z4, (a6 y hy).trans z5⟩, (a7 y hy).trans z6, fun ht => (a8 y hy).trans (z7 ht), (a9 y hy).trans z8, (a10 y hy).trans z9, (a11 y hy).trans z10⟩
  have e86 : m' 86 = m 86 := kn' 86 (by decide)
  have e89 : m' 89 = m 89 := kn' 89 (by decide)
  refine hx_dn (hr155_20 (hx_dn (hr271_0 (fun _ => ?_) (fun c => absurd c (by rw [e86]; exact hkr)))))
  obtain ⟨M, hM⟩ : ∃ M, M = hcopy m' 89 0 87 0 1131 := ⟨_, rfl⟩
  rw [← hM]
  have g1 : ∀ c, c ≠ 87 → M c = m' c := fun c b1 => funext (fun k => by rw [hM, hcopy_ne b1])
  have g87 : ∀ k, k < 1131 → M 87 k = m 89 k := fun k hk => by rw [hM, hcopy_at hk, e89]
  have g89 : M 89 = m 89 := (g1 89 (by decide)).trans e89
  unfold hWr
  rw [g89]
  refine ⟨sOK_s g87 o1, sBk_s g87 (sBk_c (fun c c1 c2 => g1 c (by omega)) hB5), ?_, fun _ => ⟨o1, sBk_c (fun c c1 c2 => g1 c (by omega)) hB18⟩, ⟨W, lawR_c (hPL_of (fun c k hc => ?_)) h5⟩, ?_⟩
  · rw [g1 0 (by decide), g1 86 (by decide), e86, kn' 0 (by decide)]
    exact h3
  · rw [g1 c (by omega), kn' c (by omega)]
  · rw [g1 0 (by decide), g1 86 (by decide), e86, kn' 0 (by decide)]
    exact h6
/-! the law -/
theorem ww_law {a : Int} (hT : hTp m) (hR : hWr xs m) : hxn xs n yp_m22 0 [(0, .inr (.inl 0)), (1, .inl a)] [] m (fun _ m1 => hxn xs n yp_m168 0 [(0, .inr (.inl 86)), (1, .inl a)] [] m1 (fun _ m2 => hWr xs m2 ∧ True)) := by
  have hR' := hR
  obtain ⟨t1, t2, t3, t4⟩ := hT
  by_cases hN : 1 ≤ a ∧ a ≤ 240 ∧ a ≤ m 1 1
  · obtain ⟨N, rfl⟩ : ∃ N : Nat, a = (N : Int) := ⟨a.toNat, by omega⟩
    refine c22 (by omega) hN.2.2 (fun K CL m1 ok lw z f => ?_) (fun f m1 wr z fl => ?_)
    · have e4 : m1 86 4 = m 86 4 := f 86 4 (by decide) (by decide) (by decide) (by decide) (by decide) (by decide) (by omega) (by decide) (by decide) (by decide) (by decide) (by decide) (by decide) (by decide) (by decide) (by decide) (by omega)
      refine r168T (T := m 2) (by omega) (by omega) (fun k hk => ?_) ok (fun m2 lw2 z2 g => ⟨?_, trivial⟩)
      · rw [f 90 k (by decide) (by decide) (by decide) (by decide) (by decide) (by decide) (by omega) (by decide) (by decide) (by decide) (by decide) (by decide) (by decide) (by decide) (by decide) (by decide) (by omega)]
        exact t4 k (by omega)
      · have ff : ∀ c k, (c = 0 ∨ (5 ≤ c ∧ c ≤ 30) ∨ c = 87 ∨ c = 89 ∨ (c = 86 ∧ 14 ≤ k)) → m2 c k = m c k := fun c k hc => by
          have q1 : m1 c k = m c k := f c k (by omega) (by omega) (by omega) (by omega) (by omega) (by omega) (by omega) (by omega) (by omega) (by omega) (by omega) (by omega) (by omega) (by omega) (by omega) (by omega) (by omega)
          rw [← q1]
          by_cases e : c = 86
          · subst e
            exact g.2 k (by omega) (by omega) (by omega) (by omega) (by omega) (by omega) (by omega) (by omega) (by omega) (by omega)
          · exact g.1 c k e (by omega) (by omega) (by omega) (by omega) (by omega) (by omega) (by omega) (by omega) (by omega) (by omega) (by omega)
        obtain ⟨h1, h2, h3, h4, -, h6⟩ := hR
        obtain ⟨s1, s2, rc, re, s3⟩ := lOk_sem (by omega) ok xs
        have lw' : cLw K CL m2 := by
          have q : ∀ c k, 44 ≤ c → c ≤ 50 → m2 c k = m1 c k := fun c k b1 b2 => g.1 c k (by omega) (by omega) (by omega) (by omega) (by omega) (by omega) (by omega) (by omega) (by omega) (by omega) (by omega) (by omega)
          refine ⟨by rw [q 44 7 (by decide) (by decide)]; exact lw.1, fun i c hc => ?_, fun i c hc => ?_⟩
          · rw [q 45 i (by decide) (by decide), q 46 i (by decide) (by decide)]
            exact lw.2.1 i c hc
          · rw [q 47 i (by decide) (by decide), q 48 i (by decide) (by decide), q 49 i (by decide) (by decide), q 50 i (by decide) (by decide)]
            exact lw.2.2 i c hc
        have e87 : m2 87 = m 87 := funext (fun k => ff 87 k (by omega))
        have e89 : m2 89 = m 89 := funext (fun k => ff 89 k (by omega))
        unfold hWr
        rw [e87, e89]
        refine ⟨h1, sBk_c (fun c c1 c2 => funext (fun k => ff c k (by omega))) h2, by rw [ff 0 12 (by omega), ff 86 47 (by omega)]; exact h3, fun hk => ?_, ⟨_, K, CL, rc, re, s1, s2, lw', lw2, s3, rfl⟩, by rw [ff 0 13 (by omega), ff 86 44 (by omega)]; exact h6⟩
        obtain ⟨z1, z2⟩ := h4 (by rw [← ff 86 47 (by omega)]; exact hk)
        exact ⟨z1, sBk_c (fun c c1 c2 => funext (fun k => ff c k (by omega))) z2⟩
    · have e4 : m1 86 4 = m 86 4 := fl 86 4 (by decide) (by decide) (by decide) (by decide) (by decide) (by decide) (by decide) (by decide) (by decide) (by omega)
      refine r168F (T := m 2) (by omega) (by omega) (fun k hk => ?_) wr (fun m2 z2 g => ⟨?_, trivial⟩)
      · rw [fl 90 k (by decide) (by decide) (by decide) (by decide) (by decide) (by decide) (by decide) (by decide) (by decide) (by omega)]
        exact t4 k (by omega)
      · refine hWr_c (m := m) (fun q hq k b1 b2 => ?_) hR'
        have q1 : m1 q.1 k = m q.1 k ∧ m2 q.1 k = m1 q.1 k := by
          simp only [hPR, hPL, List.mem_append, List.mem_cons, List.not_mem_nil, or_false] at hq
          have hc : (q.1 = 0 ∧ 12 ≤ k) ∨ (5 ≤ q.1 ∧ q.1 ≤ 30) ∨ (44 ≤ q.1 ∧ q.1 ≤ 50) ∨ (q.1 = 86 ∧ 13 ≤ k) ∨ q.1 = 87 ∨ q.1 = 89 ∨ (97 ≤ q.1 ∧ q.1 ≤ 101) := by
            rcases hq with (rfl | rfl | rfl | rfl | rfl | rfl | rfl | rfl | rfl | rfl | rfl | rfl | rfl | rfl | rfl | rfl | rfl | rfl | rfl | rfl | rfl | rfl | rfl | rfl | rfl | rfl | rfl | rfl | rfl | rfl | rfl) | (rfl | rfl | rfl | rfl | rfl | rfl | rfl | rfl | rfl | rfl | rfl | rfl | rfl) <;> dsimp only at b1 b2 ⊢ <;> omega
          generalize q.1 = c at hc
          refine ⟨fl c k (by omega) (by omega) (by omega) (by omega) (by omega) (by omega) (by omega) (by omega) (by omega) (by omega), ?_⟩
          by_cases e : c = 86
          · subst e
            exact g.2 k (by omega) (by omega) (by omega) (by omega) (by omega) (by omega) (by omega) (by omega) (by omega)
          · exact g.1 c k e (by omega) (by omega) (by omega) (by omega) (by omega) (by omega)
        exact q1.2.trans q1.1
  · exact c22n hN (r168n (by rw [← t3]; exact hN) ⟨hR', trivial⟩)
/-! deals -/
noncomputable def aSt (W : (Int → Int) → Int → Option Int) (s : Nat → Int) (a : hAct) : (Nat → Int) × Int := @ite _ (dCan W s a) (Classical.propDecidable _) (dDo s a, 1) (s, 0)
theorem aSt_t {W : (Int → Int) → Int → Option Int} {s : Nat → Int} {a : hAct} (h : dCan W s a) : aSt W s a = (dDo s a, 1) := if_pos h
theorem aSt_f {W : (Int → Int) → Int → Option Int} {s : Nat → Int} {a : hAct} (h : ¬ dCan W s a) : aSt W s a = (s, 0) := if_neg h
noncomputable def aLs (W : (Int → Int) → Int → Option Int) (s : Nat → Int) (A : List hAct) : Nat → (Nat → Int) × Int
  | 0 => (s, 0)
  | i + 1 => match A[i]? with
    | some a => ((aSt W (aLs W s A i).1 a).1, (aLs W s A i).2 + (aSt W (aLs W s A i).1 a).2)
    | none => aLs W s A i
theorem aLs_s {W : (Int → Int) → Int → Option Int} {s : Nat → Int} {A : List hAct} {i : Nat} {a : hAct} (h : A[i]? = some a) : aLs W s A (i + 1) = ((aSt W (aLs W s A i).1 a).1, (aLs W s A i).2 + (aSt W (aLs W s A i).1 a).2) := by
  show (match A[i]? with
    | some a => ((aSt W (aLs W s A i).1 a).1, (aLs W s A i).2 + (aSt W (aLs W s A i).1 a).2)
    | none => aLs W s A i) = _
  rw [h]
theorem la_some {A : List hAct} {i : Nat} (h : i < A.length) : ∃ c, A[i]? = some c := ⟨A[i], List.getElem?_eq_getElem h⟩
theorem la_ok {A : List hAct} {i : Nat} {a : hAct} (h : A[i]? = some a) (ha : ∀ a ∈ A, aOK a) : aOK a := ha a (List.mem_of_getElem? h)
theorem aLs_ok {W : (Int → Int) → Int → Option Int} {s : Nat → Int} {A : List hAct} (hs : sOK s) (ha : ∀ a ∈ A, aOK a) : ∀ i, i ≤ A.length → sOK (aLs W s A i).1 ∧ 0 ≤ (aLs W s A i).2 ∧ (aLs W s A i).2 ≤ i
  | 0, _ => ⟨hs, Int.le_refl _, Int.le_refl _⟩
  | i + 1, hi => by
    obtain ⟨a, hA⟩ := la_some (A := A) (i := i) (by omega)
    obtain ⟨h1, h2, h3⟩ := aLs_ok (W := W) hs ha i (by omega)
    rw [aLs_s hA]
    rcases Classical.em (dCan W (aLs W s A i).1 a) with c | c
    · rw [aSt_t c]
      refine ⟨dDo_ok (la_ok hA ha) h1 c, ?_⟩
      dsimp only
      omega
    · rw [aSt_f c]
      refine ⟨h1, ?_⟩
      dsimp only
      omega
variable {Q : hQ} {s : Nat → Int} {W : (Int → Int) → Int → Option Int} {A : List hAct} {m0 : gx_M}
theorem c48l (hL : lawR xs W m0) (hA : cAc A m0) (ha : ∀ a ∈ A, aOK a) (h16 : A.length ≤ 16) (hs : sOK s) (hB : sBk 5 s m0) (h : ∀ m', sBk 5 (aLs W s A A.length).1 m' → cDf 5 m0 m' → Q (some (.inl (aLs W s A A.length).2)) m') : hxn xs n yp_m48 54 [(0, .inr (.inl 0)), (2, .inl 0), (3, .inl 0)] [] m0 Q := by
  have hl := hloop (N := A.length) (P := fun i => ∀ m : gx_M, sBk 5 (aLs W s A i).1 m → cDf 5 m0 m → hxn xs n yp_m48 54 [(0, .inr (.inl 0)), (2, .inl (aLs W s A i).2), (3, .inl (i : Int))] [] m Q) (fun m hB hf => ?_) (fun i hi ih => ?_) 0 (Nat.zero_le _)
  · exact hl m0 hB (fun _ _ _ _ _ => rfl)
  · have hn := (cAc_f5 hf hA).1
    exact hx_dn (hr48_54 (fun _ => h m hB hf) (fun c => absurd c (by omega)))
  · intro m hB hf
    have hA' := cAc_f5 hf hA
    obtain ⟨a, hi'⟩ := la_some hi
    obtain ⟨ok, g1, g2⟩ := aLs_ok (W := W) hs ha i (by omega)
    have hn := hA'.1
    rw [aLs_s hi'] at ih
    refine hx_dn (hr48_54 (fun c => absurd c (by omega)) (fun _ => ?_))
    refine cd53 (lawR_c (cDf_L5 hf) hL) hA' hi' h16 (la_ok hi' ha) ok hB (fun c m1 f1 h1 => ?_) (fun c m1 f1 h1 => ?_)
    · rw [aSt_t c] at ih
      refine hx_dn (hr48_81 (s0 := 1) (fun c => absurd c (by decide)) (fun _ => ?_))
      rw [ew_u (by omega), gx_w_id (by omega) (by omega)]
      exact ih m1 h1 (cDf_t hf f1)
    · rw [aSt_f c] at ih
      refine hx_dn (hr48_81 (s0 := 0) (fun _ => ?_) (fun c => absurd rfl c))
      rw [ew_u (by omega)]
      dsimp only at ih
      rw [Int.add_zero] at ih
      exact ih m1 h1 (cDf_t hf f1)
theorem r190l (hL : lawR xs W m0) (hA : rAc A m0) (ha : ∀ a ∈ A, aOK a) (h16 : A.length ≤ 16) (hs : sOK (m0 87)) (h : ∀ m', m' 87 = (aLs W (m0 87) A A.length).1 → rDf m0 m' → Q (some (.inl (aLs W (m0 87) A A.length).2)) m') : hxn xs n yp_m190 38 [(0, .inr (.inl 86)), (2, .inl 0), (3, .inl 0)] [] m0 Q := by
  have hl := hloop (N := A.length) (P := fun i => ∀ m : gx_M, m 87 = (aLs W (m0 87) A i).1 → rDf m0 m → hxn xs n yp_m190 38 [(0, .inr (.inl 86)), (2, .inl (aLs W (m0 87) A i).2), (3, .inl (i : Int))] [] m Q) (fun m e hf => ?_) (fun i hi ih => ?_) 0 (Nat.zero_le _)
  · exact hl m0 rfl rDf_r
  · have hn := (rAc_f hf hA).1
    exact hx_dn (hr190_38 (fun _ => h m e hf) (fun c => absurd c (by omega)))
  · intro m e hf
    have hA' := rAc_f hf hA
    obtain ⟨a, hi'⟩ := la_some hi
    obtain ⟨ok, g1, g2⟩ := aLs_ok (W := W) hs ha i (by omega)
    have hn := hA'.1
    rw [aLs_s hi'] at ih
    refine hx_dn (hr190_38 (fun c => absurd c (by omega)) (fun _ => ?_))
    refine r195 (lawR_c (rDf_L hf) hL) hA' hi' h16 (la_ok hi' ha) (by rw [e]; exact ok) (fun c m1 f1 h1 => ?_) (fun c m1 f1 h1 => ?_)
    · rw [e] at c h1
      rw [aSt_t c] at ih
      refine hx_dn (hr190_52 (s1 := 1) (fun c => absurd c (by decide)) (fun _ => ?_))
      rw [ew_u (by omega), gx_w_id (by omega) (by omega)]
      exact ih m1 h1 (rDf_t hf f1)
    · rw [e] at c h1
      rw [aSt_f c] at ih
      refine hx_dn (hr190_52 (s1 := 0) (fun _ => ?_) (fun c => absurd rfl c))
      rw [ew_u (by omega), gx_w_id (by omega) (by omega)]
      exact ih m1 h1 (rDf_t hf f1)
theorem ww_deals {a : Int} (hT : hTp m) (hR : hWr xs m) : hxn xs n yp_m48 0 [(0, .inr (.inl 0)), (1, .inl a)] [] m (fun r1 m1 => hxn xs n yp_m190 0 [(0, .inr (.inl 86)), (1, .inl a)] [] m1 (fun r2 m2 => hWr xs m2 ∧ r2 = r1)) := by
  have hR' := hR
  obtain ⟨h1, h2, h3, h4, ⟨W, h5⟩, h6⟩ := hR
  obtain ⟨t1, t2, t3, t4⟩ := hT
  refine hx_dn (hr48_0 ?_)
  have bad : ¬ (1 ≤ a ∧ a ≤ 160 ∧ a ≤ m 1 1) → hxn xs n yp_m48 11 [(0, .inr (.inl 0)), (1, .inl a)] [.inl 0] m (fun r1 m1 => hxn xs n yp_m190 0 [(0, .inr (.inl 86)), (1, .inl a)] [] m1 (fun r2 m2 => hWr xs m2 ∧ r2 = r1)) := fun hN =>
    hx_dn (hr48_11 (s0 := 0) (fun c => absurd rfl c) (fun _ => hx_dn (hr190_0 (fun c1 c2 => absurd ⟨c1.1, c1.2, by omega⟩ hN) (fun _ _ => ⟨hR', rfl⟩) (fun _ => ⟨hR', rfl⟩))))
  refine hx_dn (hr23_0 (fun c => bad (by omega)) (fun _ c => bad (by omega)) (fun _ _ c => bad (by omega)) (fun c1 c2 c3 => ?_))
  obtain ⟨N, rfl⟩ : ∃ N : Nat, a = (N : Int) := ⟨a.toNat, by omega⟩
  refine hx_dn (hr48_11 (s0 := 1) (fun _ => ?_) (fun c => absurd c (by decide)))
  refine cs24 (by omega) (fun m1 x1 z1 f1 => ?_)
  refine hx_dn (hr48_28 ?_)
  refine c49 (by omega) x1 (fun v m2 hP => ?_)
  obtain ⟨hf, hP⟩ := hP
  have ff : ∀ c k, c ≠ 3 → c ≠ 4 → c ≠ 1 → (c < 61 ∨ 66 < c) → m2 c k = m c k := fun c k b1 b2 b3 b4 => by
    rw [hf c b4 b1]
    exact f1 c k b1 b2 (by omega)
  have eT : ∀ M : gx_M, (∀ k, M 90 k = m 90 k) → ∀ k, k < N → gx_and (M 90 k) 255 = m 2 k := fun M hM k hk => by
    rw [hM k]
    exact t4 k (by omega)
  have ok := fun B e => dAll_ok (T := m 2) (L := N) (d := 17) (p := 0) (A := []) (B := B) (Nat.zero_le _) (fun a ha => by cases ha) e
  cases hD : dAll (m 2) N 17 0 [] with
  | inr f =>
    rw [hD] at hP
    obtain ⟨rfl, e4⟩ := hP
    refine hx_dn (hr48_39 (s0 := 0) (fun c => absurd rfl c) (fun _ => ?_))
    rw [e4]
    refine hx_dn (hr190_0 (fun _ _ => ?_) (fun _ c => ?_) (fun c => absurd ⟨c1, c2⟩ c))
    · refine r191 (T := m 2) (by omega) (eT m2 (fun k => ff 90 k (by decide) (by decide) (by decide) (by decide))) (fun v m3 hP => ?_)
      rw [hD] at hP
      obtain ⟨g1, g2, rfl, g3⟩ := hP
      refine hx_dn (hr190_26 (s0 := 0) (fun c => absurd rfl c) (fun _ => ?_))
      rw [g3]
      refine ⟨hWr_c (m := m) (fun q hq k b1 b2 => ?_) hR', rfl⟩
      simp only [hPR, hPL, List.mem_append, List.mem_cons, List.not_mem_nil, or_false] at hq
      have hc : q.1 = 0 ∨ (5 ≤ q.1 ∧ q.1 ≤ 30) ∨ (44 ≤ q.1 ∧ q.1 ≤ 50) ∨ (q.1 = 86 ∧ (k = 13 ∨ k = 44 ∨ k = 47)) ∨ q.1 = 87 ∨ q.1 = 89 ∨ (97 ≤ q.1 ∧ q.1 ≤ 101) := by
        rcases hq with (rfl | rfl | rfl | rfl | rfl | rfl | rfl | rfl | rfl | rfl | rfl | rfl | rfl | rfl | rfl | rfl | rfl | rfl | rfl | rfl | rfl | rfl | rfl | rfl | rfl | rfl | rfl | rfl | rfl | rfl | rfl) | (rfl | rfl | rfl | rfl | rfl | rfl | rfl | rfl | rfl | rfl | rfl | rfl | rfl) <;> dsimp only at b1 b2 ⊢ <;> omega
      generalize q.1 = c at hc
      rw [← ff c k (by omega) (by omega) (by omega) (by omega)]
      by_cases e : c = 86
      · subst e
        exact g1.2 k (by omega) (by omega) (by omega) (by omega) (by omega) (by omega)
      · exact congrFun (g1.1 c e (by omega)) k
    · rw [ff 86 4 (by decide) (by decide) (by decide) (by decide)] at c
      omega
  | inl A =>
    rw [hD] at hP
    obtain ⟨rfl, hA⟩ := hP
    obtain ⟨ha, l1, l16⟩ := ok A hD
    refine hx_dn (hr48_39 (s0 := 1) (fun _ => ?_) (fun c => absurd c (by decide)))
    have hL2 : lawR xs W m2 := lawR_c (hPL_of (fun c k hc => ff c k (by omega) (by omega) (by omega) (by omega))) h5
    have hB2 : sBk 5 (m 87) m2 := sBk_c (fun c b1 b2 => funext (fun k => ff c k (by omega) (by omega) (by omega) (by omega))) h2
    refine c48l hL2 hA ha l16 h1 hB2 (fun m3 h3' f3 => ?_)
    have ff3 : ∀ c k, c ≠ 3 → c ≠ 4 → c ≠ 1 → (c < 5 ∨ 66 < c ∨ (17 < c ∧ c < 44) ∨ (44 < c ∧ c < 51)) → m3 c k = m c k := fun c k b1 b2 b3 b4 => by
      rw [f3 c k (by omega) (by omega) (by omega)]
      exact ff c k b1 b2 b3 (by omega)
    have e87 : m3 87 = m 87 := funext (fun k => ff3 87 k (by decide) (by decide) (by decide) (by decide))
    refine hx_dn (hr190_0 (fun _ _ => ?_) (fun _ c => ?_) (fun c => absurd ⟨c1, c2⟩ c))
    · refine r191 (T := m 2) (by omega) (eT m3 (fun k => ff3 90 k (by decide) (by decide) (by decide) (by decide))) (fun v m4 hP => ?_)
      rw [hD] at hP
      obtain ⟨g1, g2, rfl, g3⟩ := hP
      have e87' : m4 87 = m 87 := (g1.1 87 (by decide) (by decide)).trans e87
      have hL3 : lawR xs W m3 := lawR_c (cDf_L5 f3) hL2
      have hL4 : lawR xs W m4 := lawR_c (hPL_of (fun c k hc => by
        by_cases e : c = 86
        · subst e
          exact g1.2 k (by omega) (by omega) (by omega) (by omega) (by omega) (by omega)
        · exact congrFun (g1.1 c e (by omega)) k)) hL3
      refine hx_dn (hr190_26 (s0 := 1) (fun _ => ?_) (fun c => absurd c (by decide)))
      refine r190l hL4 g3 ha l16 (by rw [e87']; exact h1) (fun m5 q1 q2 => ⟨?_, by rw [e87']⟩)
      rw [e87'] at q1
      have ok2 := aLs_ok (W := W) h1 ha A.length (Nat.le_refl _)
      have ff5 : ∀ c k, c ≠ 3 → c ≠ 4 → c ≠ 1 → (c < 5 ∨ (17 < c ∧ c < 44) ∨ c = 89 ∨ (c = 86 ∧ (k = 44 ∨ k = 47))) → m5 c k = m c k := fun c k b1 b2 b3 b4 => by
        rw [q2 c (by omega) (by omega) (by omega), ← ff3 c k b1 b2 b3 (by omega)]
        by_cases e : c = 86
        · subst e
          exact g1.2 k (by omega) (by omega) (by omega) (by omega) (by omega) (by omega)
        · exact congrFun (g1.1 c e (by omega)) k
      have e89 : m5 89 = m 89 := funext (fun k => ff5 89 k (by decide) (by decide) (by decide) (by omega))
      have hB5 : sBk 5 (aLs W (m 87) A A.length).1 m5 := sBk_c (fun c b1 b2 => by rw [q2 c (by omega) (by omega) (by omega), g1.1 c (by omega) (by omega)]) h3'
      unfold hWr
      rw [q1, e89]
      refine ⟨ok2.1, hB5, ?_, fun hk => ?_, ⟨W, lawR_c (rDf_L q2) hL4⟩, ?_⟩
      · rw [ff5 0 12 (by decide) (by decide) (by decide) (by decide), ff5 86 47 (by decide) (by decide) (by decide) (by omega)]
        exact h3
      · obtain ⟨z1, z2⟩ := h4 (by rw [← ff5 86 47 (by decide) (by decide) (by decide) (by omega)]; exact hk)
        exact ⟨z1, sBk_c (fun c b1 b2 => funext (fun k => ff5 c k (by omega) (by omega) (by omega) (by omega))) z2⟩
      · rw [ff5 0 13 (by decide) (by decide) (by decide) (by decide), ff5 86 44 (by decide) (by decide) (by decide) (by omega)]
        exact h6
    · rw [ff3 86 4 (by decide) (by decide) (by decide) (by decide)] at c
      omega
/-! days -/
theorem ww_days {a : Int} (hR : hWr xs m) : hxn xs n yp_m133 0 [(0, .inr (.inl 0)), (1, .inl a)] [] m (fun r1 m1 => hxn xs n yp_m257 0 [(0, .inr (.inl 86)), (1, .inl a)] [] m1 (fun r2 m2 => hWr xs m2 ∧ r2 = r1)) := by
  have hR' := hR
  obtain ⟨h1, h2, h3, h4, ⟨W, h5⟩, h6⟩ := hR
  have bad : ¬ (1 ≤ a ∧ a ≤ 100) → hxn xs n yp_m257 0 [(0, .inr (.inl 86)), (1, .inl a)] [] m (fun r2 m2 => hWr xs m2 ∧ r2 = some (.inl (-1))) := fun hN => hx_dn (hr257_0 (fun c => absurd c hN) (fun _ => ⟨hR', rfl⟩))
  refine hx_dn (hr133_0 (fun c => bad (by omega)) (fun c1 c2 => ?_) (fun _ c => bad (by omega)))
  obtain ⟨N, rfl⟩ : ∃ N : Nat, a = (N : Int) := ⟨a.toNat, by omega⟩
  refine c134 (by omega) h5 h1 h2 (fun m1 hB1 f1 => ?_)
  refine hx_dn (hr133_29 ?_)
  have ok := dN_ok (W := W) h1 N (by omega)
  have e87 : gx_u m1 0 13 (gx_w (m1 0 13 + (dN W (m 87) N).2)) 87 = m 87 := by
    rw [gx_u_off (by decide)]
    exact funext (fun k => f1 87 k (by decide) (by decide) (by omega))
  have ff : ∀ c k, (c < 5 ∨ 17 < c) → c ≠ 51 → c ≠ 44 → ¬ (c = 0 ∧ k = 13) → gx_u m1 0 13 (gx_w (m1 0 13 + (dN W (m 87) N).2)) c k = m c k := fun c k b1 b2 b3 b4 => by
    rw [gx_u_ne (by omega)]
    exact f1 c k b1 b2 (by omega)
  have hL2 : lawR xs W (gx_u m1 0 13 (gx_w (m1 0 13 + (dN W (m 87) N).2))) := lawR_c (hPL_of (fun c k hc => by rw [gx_u_ne (by omega)])) (lawR_c (cDf_L5 f1) h5)
  have hB2 : sBk 5 (dN W (m 87) N).1 (gx_u m1 0 13 (gx_w (m1 0 13 + (dN W (m 87) N).2))) := sBk_c (fun c b1 b2 => gx_u_off (by omega)) hB1
  have e13 : gx_u m1 0 13 (gx_w (m1 0 13 + (dN W (m 87) N).2)) 0 13 = gx_w (m 86 44 + (dN W (m 87) N).2) := by
    rw [gx_u_self, f1 0 13 (by decide) (by decide) (by decide), h6]
  generalize gx_u m1 0 13 (gx_w (m1 0 13 + (dN W (m 87) N).2)) = M at e87 ff hL2 hB2 e13
  refine hx_dn (hr257_0 (fun _ => ?_) (fun c => absurd ⟨c1, c2⟩ c))
  refine r258 (by omega) hL2 (by rw [e87]; exact h1) (fun m2 q1 q2 q3 => ?_)
  rw [e87] at q1 q2
  refine hx_dn (hr257_17 ?_)
  rw [q2]
  have e44 : m2 86 44 = m 86 44 := by rw [q3.2 44 (by decide)]; exact ff 86 44 (by decide) (by decide) (by decide) (by decide)
  rw [e44]
  refine ⟨?_, rfl⟩
  have f5 : ∀ c, c ≠ 86 → c ≠ 87 → c ≠ 102 → c ≠ 103 → gx_u m2 86 44 (gx_w (m 86 44 + (dN W (m 87) N).2)) c = M c := fun c b1 b2 b3 b4 => by
    rw [gx_u_off b1]
    exact q3.1 c b1 b2 b3 b4
  have f6 : ∀ k, k ≠ 44 → k ≠ 45 → gx_u m2 86 44 (gx_w (m 86 44 + (dN W (m 87) N).2)) 86 k = M 86 k := fun k b1 b2 => by
    rw [gx_u_ne (by omega)]
    exact q3.2 k b2
  have g87 : gx_u m2 86 44 (gx_w (m 86 44 + (dN W (m 87) N).2)) 87 = (dN W (m 87) N).1 := by
    rw [gx_u_off (by decide)]
    exact q1
  have g44 : gx_u m2 86 44 (gx_w (m 86 44 + (dN W (m 87) N).2)) 86 44 = gx_w (m 86 44 + (dN W (m 87) N).2) := gx_u_self
  generalize gx_u m2 86 44 (gx_w (m 86 44 + (dN W (m 87) N).2)) = X at f5 f6 g87 g44
  have e89 : X 89 = m 89 := (f5 89 (by decide) (by decide) (by decide) (by decide)).trans (funext (fun k => ff 89 k (by decide) (by decide) (by decide) (by omega)))
  unfold hWr
  rw [g87, e89]
  refine ⟨ok.1, sBk_c (fun c b1 b2 => f5 c (by omega) (by omega) (by omega) (by omega)) hB2, ?_, fun hk => ?_, ⟨W, lawR_c (hPL_of (fun c k hc => ?_)) hL2⟩, ?_⟩
  · rw [f5 0 (by decide) (by decide) (by decide) (by decide), f6 47 (by decide) (by decide), ff 0 12 (by decide) (by decide) (by decide) (by decide), ff 86 47 (by decide) (by decide) (by decide) (by decide)]
    exact h3
  · rw [f6 47 (by decide) (by decide), ff 86 47 (by decide) (by decide) (by decide) (by decide)] at hk
    obtain ⟨z1, z2⟩ := h4 hk
    refine ⟨z1, sBk_c (fun c b1 b2 => ?_) z2⟩
    rw [f5 c (by omega) (by omega) (by omega) (by omega)]
    exact funext (fun k => ff c k (by omega) (by omega) (by omega) (by omega))
  · by_cases e : c = 86
    · subst e
      exact f6 k (by omega) (by omega)
    · rw [f5 c e (by omega) (by omega) (by omega)]
  · rw [f5 0 (by decide) (by decide) (by decide) (by decide), e13, g44]
end WC
