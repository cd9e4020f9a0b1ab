/-! factors to conditions: what the class makes of them -/
def cEnd (T : Nat → Int) (L k p : Nat) : Prop := (k = 1 → ¬ isPr (tx T L p)) ∧ (k = 2 → ¬ isSm (tx T L p)) ∧ (k = 4 → tx T L p ≠ 38) ∧ (k = 5 → tx T L p ≠ 124)
def cR (T : Nat → Int) (L : Nat) (m0 : gx_M) (k o p : Nat) (K : hCode) (Q : hQ) : Prop := (∀ p' K' m', lD T L k o p K p' K' → cEnd T L k p' → cS T L m0 p' K' m' → Q (some (.inl 1)) m') ∧ ∀ f m', lE T L k o p K f → cF m0 f m' → Q (some (.inl 0)) m'
noncomputable def cP (xs : List Int32) (T : Nat → Int) (L : Nat) (m0 : gx_M) (n : Nat) (M : sx_M) (k : Nat) : Prop := ∀ (o p : Nat) (K : hCode) (m : gx_M) (Q : hQ), o ≤ 6 → cS T L m0 p K m → cR T L m0 k o p K Q → hxn xs n M 0 [(0, .inr (.inl 52)), (1, .inr (.inl 3)), (2, .inl (o : Int))] [] m Q
theorem cEnd0 {T : Nat → Int} {L k p : Nat} (hk : k = 0 ∨ k = 3) : cEnd T L k p := ⟨fun e => by omega, fun e => by omega, fun e => by omega, fun e => by omega⟩
theorem isPr_no : ¬ isPr (-1) := by
  unfold isPr
  omega
theorem isSm_no : ¬ isSm (-1) := by
  unfold isSm
  omega
section CP
variable {xs : List Int32} {n : Nat} {T : Nat → Int} {L : Nat} {m0 : gx_M}
theorem c_fac (ih : cP xs T L m0 n yp_m31 2) : cP xs T L m0 n yp_m33 0 := by
  intro o p K m Q ho hS hR
  have hpl := cs_pl hS
  have hsg := cs_sg hS
  have hkl := cs_kl hS
  refine hx_dn (hr33_0 (by omega) (fun c => ?_) (fun c1 c2 c3 => ?_) (fun c1 c2 c3 => ?_) (fun c1 c2 c3 => ?_) (fun c1 c2 c3 => ?_))
  · rw [hsg] at c
    refine cs35 (most := 5) (by decide) hS (fun j m1 hj hd he h1 => ?_)
    have hj1 : 1 ≤ j := by
      rcases Nat.eq_zero_or_pos j with rfl | h
      · rcases he with he | he
        · omega
        · exact absurd c he
      · exact h
    refine hx_dn (hr33_17 ?_)
    refine cs36 h1 (by omega) (fun m2 h2 => ?_)
    refine hx_dn (hr33_20 (fun d => ?_) (fun d => ?_))
    · rw [cs_sg h2] at d
      have hj5 : j = 5 := he.resolve_right (fun x => x d)
      subst hj5
      rw [cs_pl h2]
      refine cs29 h2 (by decide) (fun m3 h3 => hx_dn (hr33_37 (fun _ => hR.2 _ _ ((lE_rul T L).2.1 _ _ _ (fun i hi => ?_)) h3) (fun c => absurd rfl c)))
      by_cases e : i = 5
      · rw [e]
        exact d
      · exact hd i (by omega)
    · rw [cs_sg h2] at d
      exact hR.1 _ _ _ (lD_num hj1 hj hd d) (cEnd0 (.inl rfl)) h2
  · rw [hsg] at c1 c2 c3 ⊢
    refine cs30 hS (tx_lt (fun e => by rw [e] at c3; unfold isLt at c3; omega)) (fun m1 h1 => ?_)
    refine hx_dn (hr33_119 ?_)
    exact cs36 h1 (by omega) (fun m2 h2 => hx_dn (hr33_128 (hR.1 _ _ _ (lD_let c3) (cEnd0 (.inl rfl)) h2)))
  · rw [hsg] at c1 c2 c3
    exact cs28 hS (fun m1 h1 => hx_dn (hr33_114 (hR.2 _ _ ((lE_rul T L).1 _ _ _ c1 c2 c3) h1)))
  · rw [hsg] at c1 c2
    have ho6 : o < 6 := by omega
    refine cs30 hS (tx_lt (by rw [c2]; decide)) (fun m1 h1 => ?_)
    refine hx_dn (hr33_77 (by omega) ?_)
    refine ih (o + 1) (p + 1) K m1 _ (by omega) h1 ⟨fun p' K' m2 d e h2 => ?_, fun f m2 d h2 => ?_⟩
    · refine hx_dn (hr33_85 (s0 := 1) (fun c => absurd c (by decide)) (fun _ => ?_))
      refine cs37 h2 (by decide) (fun t m3 h3 => ?_) (fun t m3 h3 => ?_)
      · exact hx_dn (hr33_94 (s0 := 1) (fun c => absurd c (by decide)) (fun _ => hR.1 _ _ _ (lD_br c2 ho6 d t) (cEnd0 (.inl rfl)) h3))
      · exact hx_dn (hr33_94 (s0 := 0) (fun _ => hR.2 _ _ ((lE_rul T L).2.2.2.2.1 _ _ _ _ _ c2 ho6 d (e.2.1 rfl) t) h3) (fun c => absurd rfl c))
    · exact hx_dn (hr33_85 (s0 := 0) (fun _ => hR.2 _ _ ((lE_rul T L).2.2.2.1 _ _ _ _ c2 ho6 d) h2) (fun c => absurd rfl c))
  · rw [hsg] at c1 c2
    rw [hpl]
    exact cs29 hS (by decide) (fun m1 h1 => hx_dn (hr33_72 (hR.2 _ _ ((lE_rul T L).2.2.1 _ _ _ c2 (by omega)) h1)))
/-- products: the loop -/
theorem c_prl (ih : cP xs T L m0 n yp_m33 0) {o p : Nat} {K : hCode} {Q : hQ} (ho : o ≤ 6) (hR : cR T L m0 1 o p K Q) : ∀ e i : Nat, i + e = 240 → ∀ p1 K1 m1, i ≤ p1 → lD T L 1 o p K p1 K1 → cS T L m0 p1 K1 m1 → hxn xs n yp_m32 13 [(0, .inr (.inl 52)), (1, .inr (.inl 3)), (2, .inl (o : Int)), (3, .inl (i : Int))] [] m1 Q := by
  intro e
  induction e with
  | zero =>
    intro i hi p1 K1 m1 hip d h1
    have hL := cs_L h1
    refine hx_dn (hr32_13 (by omega) (by omega) (fun _ => hR.1 _ _ _ d ⟨fun _ => ?_, fun e => by omega, fun e => by omega, fun e => by omega⟩ h1) (fun c => absurd c (by omega)) (fun c => absurd c (by omega)))
    rw [tx_no (by omega)]
    exact isPr_no
  | succ e il =>
    intro i hi p1 K1 m1 hip d h1
    have hsg := cs_sg h1
    have hkl := cs_kl h1
    refine hx_dn (hr32_13 (by omega) (by omega) (fun c => absurd c (by omega)) (fun _ c => ?_) (fun _ c => ?_))
    · rw [hsg] at c ⊢
      refine cs30 h1 (tx_lt (fun e => by rw [e] at c; exact isPr_no c)) (fun m2 h2 => ?_)
      refine hx_dn (hr32_40 (by omega) (by omega) ?_)
      refine ih o (p1 + 1) K1 m2 _ ho h2 ⟨fun p2 K2 m3 d2 _ h3 => ?_, fun f m3 d2 h3 => ?_⟩
      · have hg := lD_grow d2
        refine hx_dn (hr32_46 (s0 := 1) (by omega) (by omega) (fun _ => ?_) (fun c => absurd c (by decide)))
        refine cs36 h3 (by omega) (fun m4 h4 => ?_)
        exact hx_dn (hr32_61 (by omega) (by omega) (il (i + 1) (by omega) p2 _ m4 (by omega) (lD_pr2 d c d2) h4))
      · exact hx_dn (hr32_46 (s0 := 0) (by omega) (by omega) (fun c => absurd rfl c) (fun _ => hR.2 _ _ ((lE_rul T L).2.2.2.2.2.2.1 _ _ _ _ _ _ d c d2) h3))
    · rw [hsg] at c
      exact hR.1 _ _ _ d ⟨fun _ => c, fun e => by omega, fun e => by omega, fun e => by omega⟩ h1
theorem c_pro (ih : cP xs T L m0 n yp_m33 0) : cP xs T L m0 n yp_m32 1 := by
  intro o p K m Q ho hS hR
  refine hx_dn (hr32_0 (by omega) (ih o p K m _ ho hS ⟨fun p1 K1 m1 d _ h1 => ?_, fun f m1 d h1 => ?_⟩))
  · exact hx_dn (hr32_6 (s0 := 1) (by omega) (fun _ => c_prl ih ho hR 240 0 rfl p1 K1 m1 (by omega) (lD_pr1 d) h1) (fun c => absurd c (by decide)))
  · exact hx_dn (hr32_6 (s0 := 0) (by omega) (fun c => absurd rfl c) (fun _ => hR.2 _ _ ((lE_rul T L).2.2.2.2.2.1 _ _ _ _ d) h1))
/-- sums: the loop -/
theorem c_sml (ih : cP xs T L m0 n yp_m32 1) {o p : Nat} {K : hCode} {Q : hQ} (ho : o ≤ 6) (hR : cR T L m0 2 o p K Q) : ∀ e i : Nat, i + e = 240 → ∀ p1 K1 m1, i ≤ p1 → lD T L 2 o p K p1 K1 → cS T L m0 p1 K1 m1 → hxn xs n yp_m31 13 [(0, .inr (.inl 52)), (1, .inr (.inl 3)), (2, .inl (o : Int)), (3, .inl (i : Int))] [] m1 Q := by
  intro e
  induction e with
  | zero =>
    intro i hi p1 K1 m1 hip d h1
    have hL := cs_L h1
    refine hx_dn (hr31_13 (by omega) (by omega) (fun _ => hR.1 _ _ _ d ⟨fun e => by omega, fun _ => ?_, fun e => by omega, fun e => by omega⟩ h1) (fun c => absurd c (by omega)) (fun c => absurd c (by omega)))
    rw [tx_no (by omega)]
    exact isSm_no
  | succ e il =>
    intro i hi p1 K1 m1 hip d h1
    have hsg := cs_sg h1
    have hkl := cs_kl h1
    refine hx_dn (hr31_13 (by omega) (by omega) (fun c => absurd c (by omega)) (fun _ c => ?_) (fun _ c => ?_))
    · rw [hsg] at c ⊢
      refine cs30 h1 (tx_lt (fun e => by rw [e] at c; exact isSm_no c)) (fun m2 h2 => ?_)
      refine hx_dn (hr31_40 (by omega) (by omega) ?_)
      refine ih o (p1 + 1) K1 m2 _ ho h2 ⟨fun p2 K2 m3 d2 e2 h3 => ?_, fun f m3 d2 h3 => ?_⟩
      · have hg := lD_grow d2
        refine hx_dn (hr31_46 (s0 := 1) (by omega) (by omega) (fun _ => ?_) (fun c => absurd c (by decide)))
        refine cs36 h3 (by omega) (fun m4 h4 => ?_)
        exact hx_dn (hr31_61 (by omega) (by omega) (il (i + 1) (by omega) p2 _ m4 (by omega) (lD_sm2 d c d2 (e2.1 rfl)) h4))
      · exact hx_dn (hr31_46 (s0 := 0) (by omega) (by omega) (fun c => absurd rfl c) (fun _ => hR.2 _ _ ((lE_rul T L).2.2.2.2.2.2.2.2.1 _ _ _ _ _ _ d c d2) h3))
    · rw [hsg] at c
      exact hR.1 _ _ _ d ⟨fun e => by omega, fun _ => c, fun e => by omega, fun e => by omega⟩ h1
theorem c_sum (ih : cP xs T L m0 n yp_m31 2) : cP xs T L m0 (n + 1) yp_m31 2 := by
  intro o p K m Q ho hS hR
  have ihP := c_pro (c_fac ih)
  refine hr31_0 (by omega) (ihP o p K m _ ho hS ⟨fun p1 K1 m1 d e1 h1 => ?_, fun f m1 d h1 => ?_⟩)
  · exact hx_dn (hr31_6 (s0 := 1) (by omega) (fun _ => c_sml ihP ho hR 240 0 rfl p1 K1 m1 (by omega) (lD_sm1 d (e1.1 rfl)) h1) (fun c => absurd c (by decide)))
  · exact hx_dn (hr31_6 (s0 := 0) (by omega) (fun c => absurd rfl c) (fun _ => hR.2 _ _ ((lE_rul T L).2.2.2.2.2.2.2.1 _ _ _ _ d) h1))
/-- parts: the loop -/
theorem c_ptl (ih : cP xs T L m0 n yp_m43 3) {o p : Nat} {K : hCode} {Q : hQ} (ho : o ≤ 6) (hR : cR T L m0 4 o p K Q) : ∀ e i : Nat, i + e = 240 → ∀ p1 K1 m1, i ≤ p1 → lD T L 4 o p K p1 K1 → cS T L m0 p1 K1 m1 → hxn xs n yp_m42 13 [(0, .inr (.inl 52)), (1, .inr (.inl 3)), (2, .inl (o : Int)), (3, .inl (i : Int))] [] m1 Q := by
  intro e
  induction e with
  | zero =>
    intro i hi p1 K1 m1 hip d h1
    have hL := cs_L h1
    refine hx_dn (hr42_13 (by omega) (by omega) (fun _ => hR.1 _ _ _ d ⟨fun e => by omega, fun e => by omega, fun _ => ?_, fun e => by omega⟩ h1) (fun c => absurd c (by omega)) (fun c => absurd c (by omega)))
    rw [tx_no (by omega)]
    decide
  | succ e il =>
    intro i hi p1 K1 m1 hip d h1
    have hsg := cs_sg h1
    have hkl := cs_kl h1
    refine hx_dn (hr42_13 (by omega) (by omega) (fun c => absurd c (by omega)) (fun _ c => ?_) (fun _ c => ?_))
    · rw [hsg] at c
      exact hR.1 _ _ _ d ⟨fun e => by omega, fun e => by omega, fun _ => c, fun e => by omega⟩ h1
    · rw [hsg] at c
      refine cs30 h1 (tx_lt (by rw [c]; decide)) (fun m2 h2 => ?_)
      refine hx_dn (hr42_33 (by omega) (by omega) ?_)
      refine cs36 h2 (by omega) (fun m3 h3 => ?_)
      refine hx_dn (hr42_43 (by omega) (by omega) ?_)
      refine ih o (p1 + 1) _ m3 _ ho h3 ⟨fun p2 K2 m4 d2 _ h4 => ?_, fun f m4 d2 h4 => ?_⟩
      · have hg := lD_grow d2
        have hk : K2[K1.length]? = some (38, 0) := by
          rw [lD_pre d2 K1.length (by rw [List.length_append, List.length_singleton]; omega)]
          exact lk_last
        refine hx_dn (hr42_51 (s0 := 1) (by omega) (by omega) (fun _ => ?_) (fun c => absurd c (by decide)))
        refine cs44 h4 hk (fun m5 h5 => ?_)
        exact hx_dn (hr42_65 (by omega) (by omega) (il (i + 1) (by omega) p2 _ m5 (by omega) (lD_pt2 d c d2) h5))
      · exact hx_dn (hr42_51 (s0 := 0) (by omega) (by omega) (fun c => absurd rfl c) (fun _ => hR.2 _ _ ((lE_rul T L).2.2.2.2.2.2.2.2.2.2.2.2.2.2.2.2.2.1 _ _ _ _ _ _ d c d2) h4))
theorem c_par (ih : cP xs T L m0 n yp_m43 3) : cP xs T L m0 n yp_m42 4 := by
  intro o p K m Q ho hS hR
  refine hx_dn (hr42_0 (by omega) (ih o p K m _ ho hS ⟨fun p1 K1 m1 d _ h1 => ?_, fun f m1 d h1 => ?_⟩))
  · exact hx_dn (hr42_6 (s0 := 1) (by omega) (fun _ => c_ptl ih ho hR 240 0 rfl p1 K1 m1 (by omega) (lD_pt1 d) h1) (fun c => absurd c (by decide)))
  · exact hx_dn (hr42_6 (s0 := 0) (by omega) (fun c => absurd rfl c) (fun _ => hR.2 _ _ ((lE_rul T L).2.2.2.2.2.2.2.2.2.2.2.2.2.2.2.2.1 _ _ _ _ d) h1))
/-- conditions: the loop -/
theorem c_cnl (ih : cP xs T L m0 n yp_m42 4) {o p : Nat} {K : hCode} {Q : hQ} (ho : o ≤ 6) (hR : cR T L m0 5 o p K Q) : ∀ e i : Nat, i + e = 240 → ∀ p1 K1 m1, i ≤ p1 → lD T L 5 o p K p1 K1 → cS T L m0 p1 K1 m1 → hxn xs n yp_m41 13 [(0, .inr (.inl 52)), (1, .inr (.inl 3)), (2, .inl (o : Int)), (3, .inl (i : Int))] [] m1 Q := by
  intro e
  induction e with
  | zero =>
    intro i hi p1 K1 m1 hip d h1
    have hL := cs_L h1
    refine hx_dn (hr41_13 (by omega) (by omega) (fun _ => hR.1 _ _ _ d ⟨fun e => by omega, fun e => by omega, fun e => by omega, fun _ => ?_⟩ h1) (fun c => absurd c (by omega)) (fun c => absurd c (by omega)))
    rw [tx_no (by omega)]
    decide
  | succ e il =>
    intro i hi p1 K1 m1 hip d h1
    have hsg := cs_sg h1
    have hkl := cs_kl h1
    refine hx_dn (hr41_13 (by omega) (by omega) (fun c => absurd c (by omega)) (fun _ c => ?_) (fun _ c => ?_))
    · rw [hsg] at c
      exact hR.1 _ _ _ d ⟨fun e => by omega, fun e => by omega, fun e => by omega, fun _ => c⟩ h1
    · rw [hsg] at c
      refine cs30 h1 (tx_lt (by rw [c]; decide)) (fun m2 h2 => ?_)
      refine hx_dn (hr41_33 (by omega) (by omega) ?_)
      refine cs36 h2 (by omega) (fun m3 h3 => ?_)
      refine hx_dn (hr41_43 (by omega) (by omega) ?_)
      refine ih o (p1 + 1) _ m3 _ ho h3 ⟨fun p2 K2 m4 d2 e2 h4 => ?_, fun f m4 d2 h4 => ?_⟩
      · have hg := lD_grow d2
        have hk : K2[K1.length]? = some (124, 0) := by
          rw [lD_pre d2 K1.length (by rw [List.length_append, List.length_singleton]; omega)]
          exact lk_last
        refine hx_dn (hr41_51 (s0 := 1) (by omega) (by omega) (fun _ => ?_) (fun c => absurd c (by decide)))
        refine cs44 h4 hk (fun m5 h5 => ?_)
        exact hx_dn (hr41_65 (by omega) (by omega) (il (i + 1) (by omega) p2 _ m5 (by omega) (lD_cn2 d c d2 (e2.2.2.1 rfl)) h5))
      · exact hx_dn (hr41_51 (s0 := 0) (by omega) (by omega) (fun c => absurd rfl c) (fun _ => hR.2 _ _ ((lE_rul T L).2.2.2.2.2.2.2.2.2.2.2.2.2.2.2.2.2.2.2 _ _ _ _ _ _ d c d2) h4))
theorem c_con (ih : cP xs T L m0 n yp_m42 4) : cP xs T L m0 n yp_m41 5 := by
  intro o p K m Q ho hS hR
  refine hx_dn (hr41_0 (by omega) (ih o p K m _ ho hS ⟨fun p1 K1 m1 d e1 h1 => ?_, fun f m1 d h1 => ?_⟩))
  · exact hx_dn (hr41_6 (s0 := 1) (by omega) (fun _ => c_cnl ih ho hR 240 0 rfl p1 K1 m1 (by omega) (lD_cn1 d (e1.2.2.1 rfl)) h1) (fun c => absurd c (by decide)))
  · exact hx_dn (hr41_6 (s0 := 0) (by omega) (fun c => absurd rfl c) (fun _ => hR.2 _ _ ((lE_rul T L).2.2.2.2.2.2.2.2.2.2.2.2.2.2.2.2.2.2.1 _ _ _ _ d) h1))
theorem c_pie (ihS : cP xs T L m0 n yp_m31 2) (ih : cP xs T L m0 n yp_m43 3) : cP xs T L m0 (n + 1) yp_m43 3 := by
  intro o p K m Q ho hS hR
  have hpl := cs_pl hS
  have hsg := cs_sg hS
  have hkl := cs_kl hS
  have ihC := c_con (c_par ih)
  have no : tx T L p = 33 → o < 6 → hxn xs n yp_m30 0 [(0, .inr (.inl 3))] [] m (fun r m' => hxn xs n yp_m43 79 [(0, .inr (.inl 52)), (1, .inr (.inl 3)), (2, .inl (o : Int))] (hrs r ++ []) m' Q) := fun c1 c2 => by
    refine cs30 hS (tx_lt (by rw [c1]; decide)) (fun m1 h1 => ?_)
    refine hx_dn (hr43_79 (by omega) ?_)
    refine ih (o + 1) (p + 1) K m1 _ (by omega) h1 ⟨fun p2 K2 m2 d _ h2 => ?_, fun f m2 d h2 => ?_⟩
    · have hg := lD_grow d
      refine hx_dn (hr43_87 (s0 := 1) (fun _ => ?_) (fun c => absurd c (by decide)))
      exact cs36 h2 (by omega) (fun m3 h3 => hx_dn (hr43_102 (hR.1 _ _ _ (lD_no c1 c2 d) (cEnd0 (.inr rfl)) h3)))
    · exact hx_dn (hr43_87 (s0 := 0) (fun c => absurd rfl c) (fun _ => hR.2 _ _ ((lE_rul T L).2.2.2.2.2.2.2.2.2.2.2.2.1 _ _ _ _ c1 c2 d) h2))
  have ou : (tx T L p = 33 ∨ tx T L p = 40) → 6 ≤ o → hxn xs n yp_m29 0 [(0, .inr (.inl 3)), (1, .inl 5), (2, .inl (p : Int))] [] m (fun r m' => hxn xs n yp_m43 32 [] (hrs r ++ []) m' Q) := fun c1 c2 =>
    cs29 hS (by decide) (fun m1 h1 => hx_dn (hr43_32 (hR.2 _ _ ((lE_rul T L).2.2.2.2.2.2.2.2.2.1 _ _ _ c1 c2) h1)))
  have pa : tx T L p = 40 → o < 6 → hxn xs n yp_m30 0 [(0, .inr (.inl 3))] [] m (fun r m' => hxn xs n yp_m43 43 [(0, .inr (.inl 52)), (1, .inr (.inl 3)), (2, .inl (o : Int))] (hrs r ++ []) m' Q) := fun c1 c2 => by
    refine cs30 hS (tx_lt (by rw [c1]; decide)) (fun m1 h1 => ?_)
    refine hx_dn (hr43_43 (by omega) ?_)
    refine ihC (o + 1) (p + 1) K m1 _ (by omega) h1 ⟨fun p2 K2 m2 d e h2 => ?_, fun f m2 d h2 => ?_⟩
    · refine hx_dn (hr43_51 (s0 := 1) (fun c => absurd c (by decide)) (fun _ => ?_))
      refine cs37 h2 (by decide) (fun t m3 h3 => ?_) (fun t m3 h3 => ?_)
      · exact hx_dn (hr43_60 (s0 := 1) (fun c => absurd c (by decide)) (fun _ => hR.1 _ _ _ (lD_pa c1 c2 d t) (cEnd0 (.inr rfl)) h3))
      · exact hx_dn (hr43_60 (s0 := 0) (fun _ => hR.2 _ _ ((lE_rul T L).2.2.2.2.2.2.2.2.2.2.2.1 _ _ _ _ _ c1 c2 d (e.2.2.2 rfl) t) h3) (fun c => absurd rfl c))
    · exact hx_dn (hr43_51 (s0 := 0) (fun _ => hR.2 _ _ ((lE_rul T L).2.2.2.2.2.2.2.2.2.2.1 _ _ _ _ c1 c2 d) h2) (fun c => absurd rfl c))
  have cm : ∀ {p1 K1 m1}, tx T L p ≠ 33 → tx T L p ≠ 40 → lD T L 2 o p K p1 K1 → isCm (tx T L p1) → cS T L m0 p1 K1 m1 → hxn xs n yp_m30 0 [(0, .inr (.inl 3))] [] m1 (fun r m' => hxn xs n yp_m43 152 [(0, .inr (.inl 52)), (1, .inr (.inl 3)), (2, .inl (o : Int)), (4, .inl (tx T L p1))] (hrs r ++ []) m' Q) := fun {p1 K1 m1} c1 c2 d1 t h1 => by
    have hk1 := cs_kl h1
    refine cs30 h1 (tx_lt (fun e => by rw [e] at t; unfold isCm at t; omega)) (fun m2 h2 => ?_)
    refine hx_dn (hr43_152 (by omega) ?_)
    refine ihS o (p1 + 1) K1 m2 _ ho h2 ⟨fun p2 K2 m3 d2 e2 h3 => ?_, fun f m3 d2 h3 => ?_⟩
    · have hg := lD_grow d2
      refine hx_dn (hr43_158 (s0 := 1) (fun _ => ?_) (fun c => absurd c (by decide)))
      exact cs36 h3 (by omega) (fun m4 h4 => hx_dn (hr43_173 (hR.1 _ _ _ (lD_cm c1 c2 d1 t d2 (e2.2.1 rfl)) (cEnd0 (.inr rfl)) h4)))
    · exact hx_dn (hr43_158 (s0 := 0) (fun c => absurd rfl c) (fun _ => hR.2 _ _ ((lE_rul T L).2.2.2.2.2.2.2.2.2.2.2.2.2.2.2.1 _ _ _ _ _ _ c1 c2 d1 t d2) h3))
  refine hr43_0 (by omega) (fun c1 c2 _ _ => ?_) (fun c1 c2 => ?_) (fun c1 c2 _ _ => ?_) (fun c1 c2 _ c4 => absurd c4 c1) (fun c1 c2 c3 => absurd c3 c2) (fun c1 c2 c3 _ => ?_) (fun c1 c2 c3 => ?_)
  · rw [hsg] at c1
    exact no c1 (by omega)
  · rw [hsg] at c1
    rw [hpl]
    exact ou (.inl c1) (by omega)
  · rw [hsg] at c1 c2
    refine ihS o p K m _ ho hS ⟨fun p1 K1 m1 d e1 h1 => ?_, fun f m1 d h1 => ?_⟩
    · have hs1 := cs_sg h1
      refine hx_dn (hr43_111 (s0 := 1) (by omega) (fun _ t => ?_) (fun _ _ t => ?_) (fun _ _ _ t => ?_) (fun _ t1 t2 t3 => ?_) (fun c => absurd c (by decide)))
      · rw [hs1] at t ⊢
        exact cm c1 c2 d (.inl t) h1
      · rw [hs1] at t ⊢
        exact cm c1 c2 d (.inr (.inl t)) h1
      · rw [hs1] at t ⊢
        exact cm c1 c2 d (.inr (.inr t)) h1
      · rw [hs1] at t1 t2 t3
        refine cs28 h1 (fun m2 h2 => hx_dn (hr43_147 (hR.2 _ _ ((lE_rul T L).2.2.2.2.2.2.2.2.2.2.2.2.2.2.1 _ _ _ _ _ c1 c2 d (e1.2.1 rfl) ?_) h2)))
        unfold isCm
        omega
    · exact hx_dn (hr43_111 (s0 := 0) (by omega) (fun c => absurd rfl c) (fun c => absurd rfl c) (fun c => absurd rfl c) (fun c => absurd rfl c) (fun _ => hR.2 _ _ ((lE_rul T L).2.2.2.2.2.2.2.2.2.2.2.2.2.1 _ _ _ _ c1 c2 d) h1))
  · rw [hsg] at c2
    exact pa c2 (by omega)
  · rw [hsg] at c2
    rw [hpl]
    exact ou (.inr c2) (by omega)
theorem c_all : ∀ n : Nat, cP xs T L m0 n yp_m31 2 ∧ cP xs T L m0 n yp_m43 3
  | 0 => ⟨fun _ _ _ _ _ _ _ _ => hx_0, fun _ _ _ _ _ _ _ _ => hx_0⟩
  | n + 1 => ⟨c_sum (c_all n).1, c_pie (c_all n).1 (c_all n).2⟩
theorem c_sumA : cP xs T L m0 n yp_m31 2 := (c_all n).1
theorem c_conA : cP xs T L m0 n yp_m41 5 := c_con (c_par (c_all n).2)
end CP
