/-! the reference's sums: signs that wait -/
def Pn1 (K' Kc W W' : hCode) : Prop := (Kc = K' ∧ W' = W) ∨ ∃ s, isPr s ∧ K' = Kc ++ [(s, 0)] ∧ W' = W ++ [(lop s, 0)]
def Pn2 (K' Kc W W' : hCode) : Prop := Pn1 K' Kc W W' ∨ ∃ s, isSm s ∧ ∃ K1, K' = K1 ++ [(s, 0)] ∧ Pn1 K1 Kc (W ++ [(lop s, 0)]) W'
theorem lop_pr {s : Int} (h : isPr s) : 4 ≤ lop s ∧ lop s ≤ 6 := by
  unfold isPr at h
  unfold lop
  omega
theorem lop_sm {s : Int} (h : isSm s) : 2 ≤ lop s ∧ lop s ≤ 3 := by
  unfold isSm at h
  unfold lop
  omega
theorem Pn1_len {K' Kc W W' : hCode} (h : Pn1 K' Kc W W') : Kc.length ≤ K'.length ∧ W.length ≤ W'.length ∧ W'.length ≤ W.length + 1 := by
  rcases h with ⟨rfl, rfl⟩ | ⟨s, -, rfl, rfl⟩
  · omega
  · rw [List.length_append, List.length_singleton, List.length_append, List.length_singleton]
    omega
theorem Pn2_len {K' Kc W W' : hCode} (h : Pn2 K' Kc W W') : Kc.length ≤ K'.length ∧ W.length ≤ W'.length ∧ W'.length ≤ W.length + 2 := by
  rcases h with h | ⟨s, -, K1, rfl, h⟩
  · have := Pn1_len h
    omega
  · have := Pn1_len h
    rw [List.length_append, List.length_singleton] at this ⊢
    omega
theorem Pn1_at {K' Kc W W' : hCode} (h : Pn1 K' Kc W W') {i : Nat} (hi : i < W.length) : W'[i]? = W[i]? := by
  rcases h with ⟨rfl, rfl⟩ | ⟨s, -, rfl, rfl⟩
  · rfl
  · exact lk_appl hi
theorem Pn2_at {K' Kc W W' : hCode} (h : Pn2 K' Kc W W') {i : Nat} (hi : i < W.length) : W'[i]? = W[i]? := by
  rcases h with h | ⟨s, -, K1, rfl, h⟩
  · exact Pn1_at h hi
  · rw [Pn1_at h (by rw [List.length_append, List.length_singleton]; omega), lk_appl hi]
theorem Pn1_hi {K' Kc W W' : hCode} (h : Pn1 K' Kc W W') {i : Nat} {q : Int × Int} (hi : W.length ≤ i) (hq : W'[i]? = some q) : q.1 ≠ 14 := by
  rcases h with ⟨rfl, rfl⟩ | ⟨s, hs, rfl, rfl⟩
  · have := lk_lt hq
    omega
  · rcases lk_app hq with hq | ⟨-, rfl⟩
    · have := lk_lt hq
      omega
    · have := lop_pr hs
      show lop s ≠ 14
      omega
theorem Pn2_hi {K' Kc W W' : hCode} (h : Pn2 K' Kc W W') {i : Nat} {q : Int × Int} (hi : W.length ≤ i) (hq : W'[i]? = some q) : q.1 ≠ 14 := by
  rcases h with h | ⟨s, hs, K1, rfl, h⟩
  · exact Pn1_hi h hi hq
  · by_cases c : i < (W ++ [(lop s, (0 : Int))]).length
    · rw [Pn1_at h c] at hq
      rcases lk_app hq with hq | ⟨-, rfl⟩
      · have := lk_lt hq
        omega
      · have := lop_sm hs
        show lop s ≠ 14
        omega
    · exact Pn1_hi h (by omega) hq
section RM
variable {xs : List Int32} {n : Nat} {Q : hQ} {T : Nat → Int} {L p o : Nat} {m0 m : gx_M} {K W : hCode}
theorem rs181_c1 {K' Kc W' : hCode} (hP : Pn1 K' Kc W W') (hS : rS T L m0 p Kc W' o m) (ht : ¬ (4 ≤ wtop W ∧ wtop W ≤ 6)) (hk : K'.length ≤ 240) (h : ∀ m', rS T L m0 p K' W o m' → Q none m') : hxn xs n yp_m181 0 [(0, .inr (.inl 86)), (1, .inl 0)] [] m Q := by
  rcases hP with ⟨rfl, rfl⟩ | ⟨s, hs, rfl, rfl⟩
  · exact rs181_s hS ht (fun c => absurd rfl c) (h m hS)
  · rw [List.length_append, List.length_singleton] at hk
    exact rs181_p hS (.inl hs) (by omega) (fun m2 s2 => rs181_s s2 ht (fun c => absurd rfl c) (h m2 s2))
theorem rs181_c2 {K' Kc W' : hCode} (hP : Pn2 K' Kc W W') (hS : rS T L m0 p Kc W' o m) (ht : ¬ (2 ≤ wtop W ∧ wtop W ≤ 6)) (hk : K'.length ≤ 240) (h : ∀ m', rS T L m0 p K' W o m' → Q none m') : hxn xs n yp_m181 0 [(0, .inr (.inl 86)), (1, .inl 1)] [] m Q := by
  have fin : ∀ m', rS T L m0 p K' W o m' → hxn xs n yp_m181 0 [(0, .inr (.inl 86)), (1, .inl 1)] [] m' Q := fun m' s => rs181_s s (by omega) (fun _ => by omega) (h m' s)
  have one : ∀ {K1 Kc W1 W' m} , Pn1 K1 Kc W1 W' → rS T L m0 p Kc W' o m → K1.length ≤ 240 → (∀ m', rS T L m0 p K1 W1 o m' → hxn xs n yp_m181 0 [(0, .inr (.inl 86)), (1, .inl 1)] [] m' Q) → hxn xs n yp_m181 0 [(0, .inr (.inl 86)), (1, .inl 1)] [] m Q := fun {K1 Kc W1 W' m} hP hS hk h => by
    rcases hP with ⟨rfl, rfl⟩ | ⟨s, hs, rfl, rfl⟩
    · exact h m hS
    · rw [List.length_append, List.length_singleton] at hk
      exact rs181_p hS (.inl hs) (by omega) h
  rcases hP with hP | ⟨s, hs, K1, rfl, hP⟩
  · exact one hP hS hk fin
  · rw [List.length_append, List.length_singleton] at hk
    exact one hP hS (by omega) (fun m2 s2 => rs181_p s2 (.inr ⟨by decide, hs⟩) (by omega) fin)
/-- the loop's head of a sum, and a factor's beginning -/
noncomputable def LH (xs : List Int32) (n b : Nat) (Q : hQ) (m : gx_M) : Prop := hxn xs n yp_m173 14 [(0, .inr (.inl 86)), (1, .inl (b : Int))] [] m Q
noncomputable def FE (xs : List Int32) (n b : Nat) (Q : hQ) (m : gx_M) : Prop := ∀ Qf : hQ, (∀ m', LH xs n b Q m' → Qf (some (.inl 1)) m') → (∀ m', Q (some (.inl 0)) m' → Qf (some (.inl 0)) m') → hxn xs n yp_m174 0 [(0, .inr (.inl 86))] [] m Qf
/-- a sign, and on to the factor behind it -/
theorem r_sign {b : Nat} {s : Int} {K' Kc W' : hCode} (hs : isPr s ∨ isSm s) (hP : (isPr s ∧ Pn1 K' Kc W W' ∧ ¬ (4 ≤ wtop W ∧ wtop W ≤ 6)) ∨ (isSm s ∧ Pn2 K' Kc W W' ∧ ¬ (2 ≤ wtop W ∧ wtop W ≤ 6))) (hS : rS T L m0 p Kc W' o m) (ht : tx T L p = s) (hk : K'.length ≤ 240) (hw : W.length < 240) (h : ∀ m', rS T L m0 (p + 1) K' (W ++ [(lop s, 0)]) o m' → FE xs n b Q m') : LH xs n b Q m := by
  have hb := lop_bd s
  have hlt : p < L := tx_lt (by
    rw [ht]
    rcases hs with hs | hs
    · unfold isPr at hs
      omega
    · unfold isSm at hs
      omega)
  have hhe := rs_he hS
  refine hx_dn (hr173_14 ?_)
  rw [hhe, ht]
  refine rs180 (fun _ => ?_) (fun a c => ?_)
  · show hxn xs n yp_m173 21 _ [.inl (lop s)] m Q
    have fin : ∀ m', rS T L m0 p K' W o m' → hxn xs n yp_m173 41 [(0, .inr (.inl 86)), (1, .inl (b : Int)), (2, .inl (lop s))] [] m' Q := fun m' s1 => by
      refine hx_dn (hr173_41 ?_)
      have s2 := rs_st (rs_pu s1 (a := lop s) (v := 0) (by omega) (by omega) hw) hlt
      rw [Int.add_zero] at s2
      have e1 : gx_u (gx_u m' 92 (m' 86 11).toNat (1048576 * lop s)) 86 11 (gx_w (m' 86 11 + 1)) 86 5 = m' 86 5 := by
        rw [gx_u_ne (by omega), gx_u_ne (by omega)]
      rw [e1] at s2
      rw [gx_w_id (x := 1048576 * lop s) (by omega) (by omega)]
      exact h _ s2 _ (fun m3 h3 => hx_dn (hr173_78 (s0 := 1) (fun _ => h3) (fun c => absurd c (by decide)))) (fun m3 h3 => hx_dn (hr173_78 (s0 := 0) (fun c => absurd rfl c) (fun _ => h3)))
    rcases hP with ⟨hp, hP, ht⟩ | ⟨hp, hP, ht⟩
    · have := lop_pr hp
      exact hx_dn (hr173_21 (fun c => absurd c (by omega)) (fun c => absurd c (by omega)) (fun _ _ => rs181_c1 hP hS ht hk fin) (fun _ c => absurd c (by omega)))
    · have := lop_sm hp
      exact hx_dn (hr173_21 (fun c => absurd c (by omega)) (fun c => absurd c (by omega)) (fun _ c => absurd c (by omega)) (fun _ _ => rs181_c2 hP hS ht hk fin))
  · rcases hs with hs | hs
    · exact absurd hs a
    · exact absurd hs c
/-- no sign, a bracket open: it must end -/
theorem r_close {b o1 : Nat} {K' Kc W' : hCode} (hP : Pn2 K' Kc (W ++ [(14, 0)]) W') (hS : rS T L m0 p Kc W' o1 m) (ho : o1 = o + 1) (hb : b ≤ W.length) (hn : ¬ isPr (tx T L p)) (hn2 : ¬ isSm (tx T L p)) (hk : K'.length ≤ 240) (h1 : tx T L p = 93 → ∀ m', rS T L m0 (p + 1) K' W o m' → LH xs n b Q m') (h0 : tx T L p ≠ 93 → ∀ m', rF m0 (lfl 1 p) m' → Q (some (.inl 0)) m') : LH xs n b Q m := by
  have hhe := rs_he hS
  have hwl := rs_wl hS
  have hlen := Pn2_len hP
  have hol := rs_ol hS
  rw [List.length_append, List.length_singleton] at hlen
  have hop : ∃ i q, b ≤ i ∧ W'[i]? = some q ∧ q.1 = 14 := ⟨W.length, (14, 0), hb, by rw [Pn2_at hP (by rw [List.length_append, List.length_singleton]; omega)]; exact lk_last, rfl⟩
  have hno : ¬ ∀ i q, b ≤ i → W'[i]? = some q → q.1 ≠ 14 := fun h => by
    obtain ⟨i, q, a, c, d⟩ := hop
    exact h i q a c d
  refine hx_dn (hr173_14 ?_)
  rw [hhe]
  refine rs180 (fun c => ?_) (fun _ _ => ?_)
  · rcases c with c | c
    · exact absurd c hn
    · exact absurd c hn2
  · show hxn xs n yp_m173 21 _ [.inl (-1)] m Q
    refine hx_dn (hr173_21 (fun _ c => ?_) (fun _ c => ?_) (fun c => absurd rfl c) (fun c => absurd rfl c))
    · rw [hhe] at c
      refine rs183 hS (by omega) (fun _ => ?_) (fun c => absurd c hno)
      show hxn xs n yp_m173 143 _ [.inl 1] m Q
      refine hx_dn (hr173_143 (fun c => absurd c (by decide)) (fun _ => ?_))
      rw [rs_pl hS]
      exact rs172 hS (by decide) (fun m2 h2 => hx_dn (hr173_155 (h0 c m2 h2)))
    · rw [hhe] at c
      refine rs183 hS (by omega) (fun _ => ?_) (fun c => absurd c hno)
      show hxn xs n yp_m173 97 _ [.inl 1] m Q
      refine hx_dn (hr173_97 (fun c => absurd c (by decide)) (fun _ => ?_))
      refine rs181_c2 hP hS (by rw [wtop_app]; decide) hk (fun m2 s2 => ?_)
      show hxn xs n yp_m173 105 _ [] m2 Q
      refine hx_dn (hr173_105 ?_)
      subst ho
      have s3 := rs_po s2
      have s4 := rs_op s3 (o' := o) (v := gx_w (m2 86 9 - 1)) (by rw [rs_o s2, gx_w_id (by omega) (by omega)]; omega) (by omega)
      have s5 := rs_st s4 (tx_lt (by rw [c]; decide))
      have e1 : gx_u (gx_u m2 86 11 (gx_w (m2 86 11 - 1))) 86 9 (gx_w (m2 86 9 - 1)) 86 5 = m2 86 5 := by
        rw [gx_u_ne (by omega), gx_u_ne (by omega)]
      rw [e1] at s5
      exact h1 c _ s5
/-- no sign, no bracket open: the sum is read -/
theorem r_end {b : Nat} {K' Kc W' : hCode} (hP : Pn2 K' Kc W W') (hS : rS T L m0 p Kc W' o m) (hb : b = W.length) (ht : ¬ (2 ≤ wtop W ∧ wtop W ≤ 6)) (hn : ¬ isPr (tx T L p)) (hn2 : ¬ isSm (tx T L p)) (hk : K'.length ≤ 240) (h : ∀ m', rS T L m0 p K' W o m' → Q (some (.inl 1)) m') : LH xs n b Q m := by
  have hhe := rs_he hS
  have hlen := Pn2_len hP
  have hno : ¬ ∃ i q, b ≤ i ∧ W'[i]? = some q ∧ q.1 = 14 := fun ⟨i, q, a, c, d⟩ => Pn2_hi hP (by omega) c d
  have fin : hxn xs n yp_m183 0 [(0, .inr (.inl 86)), (1, .inl (b : Int))] [] m (fun r m' => hxn xs n yp_m173 143 [(0, .inr (.inl 86))] (hrs r ++ []) m' Q) := by
    refine rs183 hS (by omega) (fun c => absurd c hno) (fun _ => ?_)
    show hxn xs n yp_m173 143 _ [.inl 0] m Q
    refine hx_dn (hr173_143 (fun _ => ?_) (fun c => absurd rfl c))
    exact rs181_c2 hP hS ht hk (fun m2 s2 => hx_dn (hr173_161 (h m2 s2)))
  refine hx_dn (hr173_14 ?_)
  rw [hhe]
  refine rs180 (fun c => ?_) (fun _ _ => ?_)
  · rcases c with c | c
    · exact absurd c hn
    · exact absurd c hn2
  · show hxn xs n yp_m173 21 _ [.inl (-1)] m Q
    refine hx_dn (hr173_21 (fun _ _ => fin) (fun _ _ => ?_) (fun c => absurd rfl c) (fun c => absurd rfl c))
    refine rs183 hS (by omega) (fun c => absurd c hno) (fun _ => ?_)
    show hxn xs n yp_m173 97 _ [.inl 0] m Q
    exact hx_dn (hr173_97 (fun _ => fin) (fun c => absurd rfl c))
/-- a number -/
theorem r_num {b : Nat} (hS : rS T L m0 p K W o m) (hd : isDg (tx T L p)) (hk : K.length ≤ p) (h1 : ∀ j m', 1 ≤ j → j ≤ 5 → (∀ i, i < j → isDg (tx T L (p + i))) → ¬ isDg (tx T L (p + j)) → rS T L m0 (p + j) (K ++ [(0, lnum T p j)]) W o m' → LH xs n b Q m') (h0 : ∀ m', (∀ i, i < 6 → isDg (tx T L (p + i))) → rF m0 (lfl 2 (p + 5)) m' → Q (some (.inl 0)) m') : FE xs n b Q m := by
  intro Qf q1 q0
  have hhe := rs_he hS
  have hL := rs_L hS
  refine hx_dn (hr174_0 (fun _ _ => ?_) (fun _ c => absurd (by rw [hhe]; exact hd) c) (fun c => ?_))
  · refine rs177 hS (fun j m2 hj hd2 he s2 h8 => ?_) (fun m2 hd2 h2 => ?_)
    · have hj1 : 1 ≤ j := by
        rcases Nat.eq_zero_or_pos j with rfl | h
        · exact absurd hd he
        · exact h
      have hle := rs_le s2
      have b1 := lnum_bd (T := T) (L := L) (p := p) j hd2
      have b2 := lpw_le hj
      show hxn xs n yp_m174 31 _ [.inl 1] m2 Qf
      refine hx_dn (hr174_31 (fun _ => ?_) (fun c => absurd c (by decide)))
      rw [h8]
      refine rs178 s2 (c := (0, lnum T p j)) ?_ (by decide) (by omega) (by omega) (fun m3 s3 => ?_)
      · show 1048576 * lop 0 + (if (0 : Int) = 1 then lfa (lnum T p j) else lnum T p j) = _
        rw [if_neg (by decide)]
        rfl
      · show hxn xs n yp_m174 45 [] [] m3 Qf
        exact hx_dn (hr174_45 (q1 m3 (h1 j m3 hj1 hj hd2 he s3)))
    · show hxn xs n yp_m174 31 _ [.inl 0] m2 Qf
      exact hx_dn (hr174_31 (fun c => absurd rfl c) (fun _ => q0 m2 (h0 m2 hd2 h2)))
  · rw [hhe] at c
    rw [c] at hd
    unfold isDg at hd
    omega
/-- a letter, or nothing that can stand here -/
theorem r_let {b : Nat} (hS : rS T L m0 p K W o m) (hd : ¬ isDg (tx T L p)) (h9 : tx T L p ≠ 91) (hk : K.length ≤ p) (h1 : isLt (tx T L p) → ∀ m', rS T L m0 (p + 1) (K ++ [(1, tx T L p)]) W o m' → LH xs n b Q m') (h0 : ¬ isLt (tx T L p) → ∀ m', rF m0 (lfl 1 p) m' → Q (some (.inl 0)) m') : FE xs n b Q m := by
  intro Qf q1 q0
  have hhe := rs_he hS
  have hL := rs_L hS
  refine hx_dn (hr174_0 (fun _ c => absurd (by rw [← hhe]; exact c) hd) (fun _ _ => ?_) (fun c => absurd (by rw [← hhe]; exact c) h9))
  rw [hhe]
  refine rs179 (fun a => ?_) (fun a => ?_)
  · have hlt : p < L := tx_lt (fun e => by
      rw [e] at a
      unfold isLt at a
      omega)
    have hb : 0 ≤ lfa (tx T L p) ∧ lfa (tx T L p) ≤ 13 := by
      generalize tx T L p = c at a
      unfold isLt at a
      unfold lfa
      omega
    show hxn xs n yp_m174 54 _ [.inl (lfa (tx T L p))] m Qf
    refine hx_dn (hr174_54 (fun _ => ?_) (fun c => absurd c (by omega)))
    refine rs178 hS (c := (1, tx T L p)) rfl (by decide) (by omega) (by omega) (fun m2 s2 => ?_)
    show hxn xs n yp_m174 76 _ [] m2 Qf
    exact hx_dn (hr174_76 (q1 _ (h1 a _ (rs_st s2 hlt))))
  · show hxn xs n yp_m174 54 _ [.inl (-1)] m Qf
    refine hx_dn (hr174_54 (fun c => absurd rfl c) (fun _ => ?_))
    rw [rs_pl hS]
    exact rs172 hS (by decide) (fun m2 h2 => hx_dn (hr174_69 (q0 m2 (h0 a m2 h2))))
/-- a bracket -/
theorem r_open {b : Nat} (hS : rS T L m0 p K W o m) (h9 : tx T L p = 91) (hw : W.length < 240) (h1 : o < 6 → ∀ m', rS T L m0 (p + 1) K (W ++ [(14, 0)]) (o + 1) m' → FE xs n b Q m') (h0 : o = 6 → ∀ m', rF m0 (lfl 5 p) m' → Q (some (.inl 0)) m') : FE xs n b Q m := by
  intro Qf q1 q0
  have hhe := rs_he hS
  refine hx_dn (hr174_0 (fun c => absurd (by rw [hhe]; exact h9) c) (fun c => absurd (by rw [hhe]; exact h9) c) (fun _ => ?_))
  refine rs175 hS (by decide) (tx_lt (by rw [h9]; decide)) hw (fun ho m2 s2 => ?_) (fun ho m2 s2 => ?_)
  · show hxn xs n yp_m174 15 _ [.inl 1] m2 Qf
    exact hx_dn (hr174_15 (fun _ => h1 ho m2 s2 Qf q1 q0) (fun c => absurd c (by decide)))
  · show hxn xs n yp_m174 15 _ [.inl 0] m2 Qf
    exact hx_dn (hr174_15 (fun c => absurd rfl c) (fun _ => q0 m2 (h0 ho m2 s2)))
end RM
