/-! taught: by both -/
theorem lClip_bd {h : Int} (hh : 0 ≤ h) (o : Option Int) : 0 ≤ lClip h o ∧ lClip h o ≤ h := by
  cases o with
  | none => exact ⟨Int.le_refl _, hh⟩
  | some v =>
    unfold lClip
    dsimp only
    split
    · omega
    · split <;> omega
theorem gx_wt {v : Nat} (h : v ≤ 100000000) : gx_w (v : Int) = (v : Int) := gx_w_id (by omega) (by omega)
theorem tdvt (a b : Nat) : Int.tdiv (a : Int) (b : Int) = ((a / b : Nat) : Int) := by
  rw [Int.tdiv_eq_ediv_of_nonneg (by omega)]
  rfl
theorem tmdt (a b : Nat) : Int.tmod (a : Int) (b : Int) = ((a % b : Nat) : Int) := by
  rw [Int.tmod_eq_emod_of_nonneg (by omega)]
  rfl
def oPr (W : (Int → Int) → Int → Option Int) (s : Nat → Int) (y : Nat) : Int := lClip 999 (W (env1 s y (s (240 + y)) 0) 118)
def oMk (s : Nat → Int) (N y : Nat) : Nat := (s (80 + y)).toNat &&& N
def oC (W : (Int → Int) → Int → Option Int) (s : Nat → Int) (p : Int) (N y : Nat) : Bool := (decide (s (440 + y) = 1) && (!(decide (s (240 + y) = p)) && !(decide (0 ≤ s (280 + y))))) && (!(decide (oMk s N y = 0)) && !((W (env1 s y p (oPr W s y)) 110).isSome))
def oOf (W : (Int → Int) → Int → Option Int) (s : Nat → Int) (N y : Nat) : Nat × Nat := (oMk s N y, (oPr W s y).toNat)
def oLs (W : (Int → Int) → Int → Option Int) (s : Nat → Int) (p : Int) (N : Nat) : Nat → List (Nat × Nat)
  | 0 => []
  | y + 1 => if oC W s p N y = true then oLs W s p N y ++ [oOf W s N y] else oLs W s p N y
section TG
variable {W : (Int → Int) → Int → Option Int} {s : Nat → Int} {p : Int} {N : Nat}
theorem oLs_t {y : Nat} (h : oC W s p N y = true) : oLs W s p N (y + 1) = oLs W s p N y ++ [oOf W s N y] := if_pos h
theorem oLs_f {y : Nat} (h : ¬ oC W s p N y = true) : oLs W s p N (y + 1) = oLs W s p N y := if_neg h
theorem oLs_len : ∀ y, (oLs W s p N y).length ≤ y
  | 0 => Nat.le_refl _
  | y + 1 => by
    have ih := oLs_len y
    by_cases c : oC W s p N y = true
    · rw [oLs_t c, List.length_append, List.length_singleton]
      omega
    · rw [oLs_f c]
      omega
theorem oPr_bd {y : Nat} : 0 ≤ oPr W s y ∧ oPr W s y ≤ 999 := lClip_bd (by decide) _
theorem oLs_ok (hN : N < 4096) : ∀ y, tOk (oLs W s p N y) N
  | 0 => ⟨hN, fun o ho => absurd ho List.not_mem_nil⟩
  | y + 1 => by
    have ih := oLs_ok hN y
    by_cases c : oC W s p N y = true
    · rw [oLs_t c]
      refine ⟨hN, fun o ho => ?_⟩
      rcases List.mem_append.mp ho with ho | ho
      · exact ih.2 o ho
      · rw [List.mem_singleton.mp ho]
        have b := oPr_bd (W := W) (s := s) (y := y)
        refine ⟨fun j hj => ?_, ?_⟩
        · have hj : ((s (80 + y)).toNat &&& N).testBit j = true := hj
          rw [Nat.testBit_and, Bool.and_eq_true] at hj
          exact hj.2
        · show (oPr W s y).toNat ≤ 999
          omega
    · rw [oLs_f c]
      exact ih
theorem oMk_eq (hs : sOK s) (hN : N < 4096) {y : Nat} (hy : y < 40) : gx_and (s (80 + y)) (N : Int) = ((oMk s N y : Nat) : Int) := by
  have k := hs.skl y hy
  obtain ⟨K, hK⟩ : ∃ K : Nat, s (80 + y) = (K : Int) := ⟨(s (80 + y)).toNat, by omega⟩
  unfold oMk
  rw [hK, Int.toNat_natCast, hand_nat (by omega) (by omega)]
theorem oC_iff {y : Nat} : oC W s p N y = true ↔ (s (440 + y) = 1 ∧ s (240 + y) ≠ p ∧ ¬ 0 ≤ s (280 + y)) ∧ oMk s N y ≠ 0 ∧ ¬ (W (env1 s y p (oPr W s y)) 110).isSome = true := by
  unfold oC
  simp only [Bool.and_eq_true, Bool.not_eq_true', decide_eq_true_eq, decide_eq_false_iff_not, ne_eq]
  rw [← Bool.not_eq_true]
variable {xs : List Int32} {n : Nat} {Q : hQ} {m m0 : gx_M} {O : List (Nat × Nat)} {a1 a2 a3 : Int}
def cOf (O : List (Nat × Nat)) (m : gx_M) : Prop := m 76 2 = (O.length : Int) ∧ ∀ i o, O[i]? = some o → m 77 i = (o.1 : Int) ∧ m 78 i = 16 * (o.2 : Int) + 1
def cTf (m m' : gx_M) : Prop := ∀ c k, c ≠ 51 → ¬ (c = 44 ∧ 9 ≤ k ∧ k ≤ 11) → c ≠ 76 → c ≠ 77 → c ≠ 78 → c ≠ 79 → m' c k = m c k
theorem cTf_B (h : cTf m0 m) (hB : sBk 5 s m0) : sBk 5 s m := sBk_c (fun c c1 c2 => funext (fun k => h c k (by omega) (by omega) (by omega) (by omega) (by omega) (by omega))) hB
theorem cTf_L (h : cTf m0 m) (hL : lawR xs W m0) : lawR xs W m := lawR_c (hPL_of (fun c k hc => h c k (by omega) (by omega) (by omega) (by omega) (by omega) (by omega))) hL
theorem c100 (hL : lawR xs W m0) (hs : sOK s) (hB : sBk 5 s m0) (hp : 0 ≤ p ∧ p < 8) (hN : N < 4096) (h : ∀ m', cOf (oLs W s p N 40) m' → cTf m0 m' → Q none m') : hxn xs n yp_m100 0 [(0, .inr (.inl 76)), (1, .inr (.inl 5)), (2, .inr (.inl 44)), (3, .inl p), (4, .inl (N : Int))] [] m0 Q := by
  refine hx_dn (hr100_0 ?_)
  refine hloop (N := 40) (P := fun y => ∀ m1 : gx_M, cOf (oLs W s p N y) m1 → cTf m0 m1 → hxn xs n yp_m100 8 [(0, .inr (.inl 76)), (1, .inr (.inl 5)), (2, .inr (.inl 44)), (3, .inl p), (4, .inl (N : Int)), (5, .inl (y : Int))] [] m1 Q) (fun m1 g f => ?_) (fun y hy ih m1 g f => ?_) 0 (Nat.zero_le _) _ ⟨gx_u_self, fun i o ho => by cases ho⟩ (fun c k a b c1 c2 c3 c4 => gx_u_ne (by omega))
  · exact hx_dn (hr100_8 (fun _ => h m1 g f) (fun c => absurd c (by decide)) (fun c => absurd c (by decide)) (fun c => absurd c (by decide)) (fun c => absurd c (by decide)) (fun c => absurd c (by decide)))
  · have hB1 := cTf_B f hB
    have hL1 := cTf_L f hL
    have len := oLs_len (W := W) (s := s) (p := p) (N := N) y
    have no : ∀ m2 : gx_M, (∀ c k, c ≠ 51 → ¬ (c = 44 ∧ 9 ≤ k ∧ k ≤ 11) → m2 c k = m1 c k) → ¬ oC W s p N y = true → hxn xs n yp_m100 8 [(0, .inr (.inl 76)), (1, .inr (.inl 5)), (2, .inr (.inl 44)), (3, .inl p), (4, .inl (N : Int)), (5, .inl (gx_w ((y : Int) + 1)))] [] m2 Q := fun m2 f2 c => by
      rw [ew_u (by omega)]
      refine ih m2 ?_ (fun c k a b c1 c2 c3 c4 => (f2 c k a b).trans (f c k a b c1 c2 c3 c4))
      rw [oLs_f c]
      refine ⟨by rw [f2 76 2 (by decide) (by decide)]; exact g.1, fun i o ho => ?_⟩
      rw [f2 77 i (by decide) (by omega), f2 78 i (by decide) (by omega)]
      exact g.2 i o ho
    have eo := sB5_own hB1 y hy
    have ek := sB5_skl hB1 y hy
    have hw := hs.own y hy
    have iff := cPw5_iff hs hB1 hy
    refine hx_dn (hr100_8 (fun c => absurd c (by omega)) (fun _ _ c => no m1 (fun _ _ _ _ => rfl) (fun q => ?_)) (fun _ _ _ c => no m1 (fun _ _ _ _ => rfl) (fun q => ?_)) (fun _ c1 c2 c3 c4 => ?_) (fun _ _ _ _ c => no m1 (fun _ _ _ _ => rfl) (fun q => ?_)) (fun _ c => no m1 (fun _ _ _ _ => rfl) (fun q => ?_)))
    · rw [Int.toNat_natCast, eo] at c
      exact (oC_iff.mp q).1.2.1 c
    · exact (oC_iff.mp q).1.2.2 (iff.mp c).2
    · rw [Int.toNat_natCast, eo] at c2
      rw [Int.toNat_natCast, ek, oMk_eq hs hN hy] at c4
      rw [Int.toNat_natCast, eo]
      refine cAm1 (.inl rfl) (by decide) hL1 hs hB1 hy (by omega) (fun m2 f2 => ?_)
      have e118 : lHi 118 = 999 := by decide
      rw [e118]
      refine hx_dn (hr100_77 ?_)
      have hB2 : sBk 5 s m2 := cLf_b (.inl rfl) f2 hB1
      refine cForb (.inl rfl) (lawR_c (cLf_L f2) hL1) hs hB2 hy hp (fun m3 f3 => ?_)
      have ff : ∀ c k, c ≠ 51 → ¬ (c = 44 ∧ 9 ≤ k ∧ k ≤ 11) → m3 c k = m1 c k := fun c k a b => (f3 c k a b).trans (f2 c k a b)
      have g2 : m3 76 2 = ((oLs W s p N y).length : Int) := by
        rw [ff 76 2 (by decide) (by decide)]
        exact g.1
      by_cases bar : (W (env1 s y p (oPr W s y)) 110).isSome = true
      · have bar' : (W (env1 s y p (lClip 999 (W (env1 s y (s (240 + y)) 0) 118))) 110).isSome = true := bar
        rw [if_pos bar']
        exact hx_dn (hr100_89 (fun _ => no m3 ff (fun q => (oC_iff.mp q).2.2 bar)) (fun c => absurd c (by decide)) (fun c => absurd c (by decide)) (fun c => absurd c (by decide)))
      · have bar' : ¬ (W (env1 s y p (lClip 999 (W (env1 s y (s (240 + y)) 0) 118))) 110).isSome = true := bar
        rw [if_neg bar']
        have ok : oC W s p N y = true := oC_iff.mpr ⟨⟨(cY_iff hB1 hy).mp c1, c2, fun q => c3 (iff.mpr ⟨(cY_iff hB1 hy).mp c1, q⟩)⟩, fun z => c4 (by rw [z]; rfl), bar⟩
        refine hx_dn (hr100_89 (fun c => absurd rfl c) (fun _ c => absurd c (by omega)) (fun _ _ _ => ?_) (fun _ _ c => absurd c (by omega)))
        have pb := oPr_bd (W := W) (s := s) (y := y)
        have pe : lClip 999 (W (env1 s y (s (240 + y)) 0) 118) = (((oPr W s y).toNat : Nat) : Int) := (Int.toNat_of_nonneg pb.1).symm
        rw [pe, ew_u (k := y) (by omega), g2, Int.toNat_natCast, Int.toNat_natCast, ff 9 y (by decide) (by omega), ek, oMk_eq hs hN hy, gx_w_id (x := 16 * (((oPr W s y).toNat : Nat) : Int)) (by omega) (by omega), gx_w_id (by omega) (by omega)]
        refine ih _ ?_ (fun c k a b c1 c2 c3 c4 => ?_)
        · rw [oLs_t ok]
          refine ⟨?_, fun i o ho => ?_⟩
          · rw [gx_u_self, List.length_append, List.length_singleton]
            rfl
          · rcases lg_app ho with ho | ⟨rfl, rfl⟩
            · have := lg_lt ho
              rw [gx_u_ne (by omega), gx_u_ne (by omega), gx_u_ne (by omega), gx_u_ne (by omega), gx_u_ne (by omega), gx_u_ne (by omega), ff 77 i (by decide) (by omega), ff 78 i (by decide) (by omega)]
              exact g.2 i o ho
            · refine ⟨?_, ?_⟩
              · rw [gx_u_ne (by omega), gx_u_ne (by omega), gx_u_self]
                rfl
              · rw [gx_u_ne (by omega), gx_u_self]
                rfl
        · rw [gx_u_ne (by omega), gx_u_ne (by omega), gx_u_ne (by omega), ff c k a b]
          exact f c k a b c1 c2 c3 c4
    · rw [Int.toNat_natCast, ek, oMk_eq hs hN hy] at c
      exact (oC_iff.mp q).2.1 (by omega)
    · exact c ((cY_iff hB1 hy).mpr (oC_iff.mp q).1.1)
theorem ls_some {α : Type} {K : List α} {i : Nat} (h : i < K.length) : ∃ c, K[i]? = some c := ⟨K[i], List.getElem?_eq_getElem h⟩
theorem orL_sub {l : List (Nat × Nat)} (hO : tOk O N) (h : ∀ o ∈ l, o ∈ O) : ∀ j, (orL l).testBit j = true → N.testBit j = true := fun j hj => by
  obtain ⟨o, ho, hb⟩ := (orL_bit l).mp hj
  exact (hO.2 o (h o ho)).1 j hb
theorem c102 {H : Nat} (hO : tOk O N) (h40 : O.length ≤ 40) (hG : cOf O m0) (hS : cSd O (m0 79)) (hH : H < N) (hn : m0 79 H ≠ 1000000) (h : ∀ m', (∀ c, c ≠ 79 → m' c = m0 c) → cSd O (m' 79) → (∀ A, A ≤ H → m' 79 A = m0 79 A) → (∀ A, m' 79 A ≤ m0 79 A) → (∀ o ∈ O, o.1.testBit (lob (mis N H)) = true → m' 79 (H ||| o.1) ≤ m0 79 H + (16 * (o.2 : Int) + 1)) → Q none m') : hxn xs n yp_m102 0 [(0, .inr (.inl 76)), (1, .inl (H : Int)), (2, .inl (N : Int))] [] m0 Q := by
  have hN := hO.1
  have hH4 : H < 4096 := by omega
  have hsub : ∀ j, H.testBit j = true → N.testBit j = true := by
    rcases hS H hH4 with e | ⟨P, c, ⟨l, l1, l2, l3, l4⟩, -⟩
    · exact absurd e hn
    · rw [← l2]
      exact orL_sub hO l1
  have m00 : mis N H ≠ 0 := fun z => absurd (eq_of_sub hsub (fun j hj => by
    have hj12 := bit_12 hN hj
    have t := mis_bit (N := N) (H := H) (i := j) hH4 (by omega)
    rw [z, Nat.zero_testBit, hj, Bool.true_and] at t
    have t := t.symm
    rw [Bool.not_eq_false'] at t
    exact t)) (by omega)
  obtain ⟨b1, b2, b3⟩ := lob_ok (mis_lt (N := N) (H := H) hN) m00
  have b1' := b1
  rw [mis_bit hH4 (by omega), Bool.and_eq_true, Bool.not_eq_true'] at b1'
  have em : gx_and (N : Int) (gx_xor (H : Int) (-1)) = ((mis N H : Nat) : Int) := hand_not (by omega) (by omega)
  refine hx_dn (hr102_0 ?_)
  rw [em, b3]
  have bd := cSd_bd hO hS hH4 hn
  have p2 : 2 ^ lob (mis N H) < 2 ^ 31 := Nat.pow_lt_pow_right (by decide) (by omega)
  refine hloop (N := O.length) (P := fun i => ∀ m1 : gx_M, (∀ c, c ≠ 79 → m1 c = m0 c) → cSd O (m1 79) → (∀ A, A ≤ H → m1 79 A = m0 79 A) → (∀ A, m1 79 A ≤ m0 79 A) → (∀ j o, j < i → O[j]? = some o → o.1.testBit (lob (mis N H)) = true → m1 79 (H ||| o.1) ≤ m0 79 H + (16 * (o.2 : Int) + 1)) → hxn xs n yp_m102 15 [(0, .inr (.inl 76)), (1, .inl (H : Int)), (4, .inl ((2 ^ lob (mis N H) : Nat) : Int)), (5, .inl (i : Int))] [] m1 Q) (fun m1 f g1 g2 g3 g4 => ?_) (fun i hi ih m1 f g1 g2 g3 g4 => ?_) 0 (Nat.zero_le _) m0 (fun _ _ => rfl) hS (fun _ _ => rfl) (fun _ => Int.le_refl _) (fun j o hj => absurd hj (Nat.not_lt_zero _))
  · have e : m1 76 2 = (O.length : Int) := by
      rw [f 76 (by decide)]
      exact hG.1
    refine hx_dn (hr102_15 (fun _ => h m1 f g1 g2 g3 (fun o ho hb => ?_)) (fun c => absurd c (by omega)) (fun c => absurd c (by omega)) (fun c => absurd c (by omega)) (fun c => absurd c (by omega)) (fun c => absurd c (by omega)))
    obtain ⟨j, hj⟩ := List.mem_iff_getElem?.mp ho
    exact g4 j o (lg_lt hj) hj hb
  · have e : m1 76 2 = (O.length : Int) := by
      rw [f 76 (by decide)]
      exact hG.1
    obtain ⟨o, ho⟩ := ls_some hi
    have oO : o ∈ O := List.mem_iff_getElem?.mpr ⟨i, ho⟩
    obtain ⟨k1, k2⟩ := hG.2 i o ho
    have o4 := tOk_lt hO oO
    have o9 := (hO.2 o oO).2
    have eH : m1 79 H = m0 79 H := g2 H (Nat.le_refl _)
    have k1' : m1 77 i = (o.1 : Int) := by rw [f 77 (by decide)]; exact k1
    have k2' : m1 78 i = 16 * (o.2 : Int) + 1 := by rw [f 78 (by decide)]; exact k2
    have lt : H ||| o.1 < 4096 := Nat.or_lt_two_pow (n := 12) hH4 o4
    have ea : gx_and (m1 77 ((i : Int)).toNat) ((2 ^ lob (mis N H) : Nat) : Int) = ((o.1 &&& 2 ^ lob (mis N H) : Nat) : Int) := by rw [Int.toNat_natCast, k1', hand_nat (by omega) p2]
    have eo : gx_or (H : Int) (m1 77 ((i : Int)).toNat) = ((H ||| o.1 : Nat) : Int) := by rw [Int.toNat_natCast, k1', hor_nat (by omega) (by omega)]
    refine hx_dn (hr102_15 (fun c => absurd c (by omega)) (fun _ c => absurd c (by omega)) (fun _ _ c => ?_) (fun _ _ _ c => ?_) (fun _ _ c _ _ => ?_) (fun _ _ _ _ c => ?_))
    · rw [ew_u (by omega)]
      refine ih m1 f g1 g2 g3 (fun j o' hj ho' hb => ?_)
      by_cases q : j = i
      · subst q
        have e' : o' = o := Option.some.inj (ho'.symm.trans ho)
        subst e'
        rw [ea] at c
        exact absurd (by omega) (and_pow.mpr hb)
      · exact g4 j o' (by omega) ho' hb
    · rw [eo] at c
      exact absurd c (by omega)
    · have hb : o.1.testBit (lob (mis N H)) = true := and_pow.mp (fun z => c (by rw [ea, z]; rfl))
      have nH : ∀ A, A ≤ H → A ≠ H ||| o.1 := fun A hA q => by
        have l1 : H ≤ H ||| o.1 := Nat.left_le_or
        have q2 : H ||| o.1 = H := by omega
        have t : (H ||| o.1).testBit (lob (mis N H)) = true := by rw [Nat.testBit_or, hb, Bool.or_true]
        rw [q2, b1'.2] at t
        cases t
      rw [ew_u (by omega), eo, Int.toNat_natCast, Int.toNat_natCast, Int.toNat_natCast, eH, k2', gx_w_id (by omega) (by omega)]
      generalize hv : (if m0 79 H + (16 * (o.2 : Int) + 1) < m1 79 (H ||| o.1) then m0 79 H + (16 * (o.2 : Int) + 1) else m1 79 (H ||| o.1)) = v
      have v1 : v ≤ m1 79 (H ||| o.1) ∧ v ≤ m0 79 H + (16 * (o.2 : Int) + 1) ∧ (v = m1 79 (H ||| o.1) ∨ v = m0 79 H + (16 * (o.2 : Int) + 1)) := by
        rw [← hv]
        split
        · exact ⟨by omega, by omega, .inr rfl⟩
        · exact ⟨by omega, by omega, .inl rfl⟩
      refine ih _ (fun c hc => by rw [gx_u_off hc]; exact f c hc) ?_ (fun A hA => ?_) (fun A => ?_) (fun j o' hj ho' hb' => ?_)
      · refine cSd_put (L := m1 79) hO g1 hH4 (by rw [eH]; exact hn) oO b2 b1'.2 hb (fun A hA => gx_u_ne (by omega)) ?_
        rw [gx_u_self, eH]
        exact v1.2.2
      · rw [gx_u_ne (by have := nH A hA; omega)]
        exact g2 A hA
      · by_cases q : A = H ||| o.1
        · subst q
          rw [gx_u_self]
          have := g3 (H ||| o.1)
          omega
        · rw [gx_u_ne (by omega)]
          exact g3 A
      · by_cases q : j = i
        · subst q
          have e' : o' = o := Option.some.inj (ho'.symm.trans ho)
          subst e'
          rw [gx_u_self]
          exact v1.2.1
        · have := g4 j o' (by omega) ho' hb'
          by_cases q2 : H ||| o'.1 = H ||| o.1
          · rw [q2, gx_u_self]
            rw [q2] at this
            omega
          · rw [gx_u_ne (by omega)]
            exact this
    · rw [eo] at c
      exact absurd c (by omega)
theorem c101 (hO : tOk O N) (h40 : O.length ≤ 40) (hG : cOf O m) (h0 : ∀ (L : Nat → Int) (m' : gx_M), cTb O N L → L N = 1000000 → (∀ c, c ≠ 76 → c ≠ 79 → m' c = m c) → Q (some (.inl 0)) m') (h1 : ∀ (L : Nat → Int) (m' : gx_M), cTb O N L → L N ≠ 1000000 → m' 76 5 = gx_w (Int.tdiv (L N) 16) → m' 76 6 = Int.tmod (L N) 16 → (∀ c, c ≠ 76 → c ≠ 79 → m' c = m c) → Q (some (.inl 1)) m') : hxn xs n yp_m101 0 [(0, .inr (.inl 76)), (1, .inl (N : Int))] [] m Q := by
  have hN := hO.1
  refine hx_dn (hr101_0 ?_)
  have ew : ∀ k : Nat, k < 5000 → gx_w ((k : Int) + 1) = ((k + 1 : Nat) : Int) := fun k hk => by
    rw [gx_w_id (by omega) (by omega)]
    omega
  refine hloop (N := 4096) (P := fun k => ∀ m1 : gx_M, (∀ c, c ≠ 79 → m1 c = m c) → (∀ A, A < k → m1 79 A = 1000000) → hxn xs n yp_m101 2 [(0, .inr (.inl 76)), (1, .inl (N : Int)), (2, .inl (k : Int))] [] m1 Q) (fun m1 f g => ?_) (fun k hk ih m1 f g => ?_) 0 (Nat.zero_le _) m (fun _ _ => rfl) (fun A hA => absurd hA (Nat.not_lt_zero _))
  · refine hx_dn (hr101_2 (fun _ => ?_) (fun c => absurd c (by decide)))
    refine hloop (N := N) (P := fun H => ∀ m2 : gx_M, (∀ c, c ≠ 79 → m2 c = m c) → m2 79 0 = 0 → cSd O (m2 79) → (∀ H', H' < H → cClo O N (m2 79) H') → hxn xs n yp_m101 32 [(0, .inr (.inl 76)), (1, .inl (N : Int)), (2, .inl (H : Int))] [] m2 Q) (fun m2 f2 g1 g2 g3 => ?_) (fun H hH ih m2 f2 g1 g2 g3 => ?_) 0 (Nat.zero_le _) _ (fun c hc => by rw [gx_u_off hc]; exact f c hc) gx_u_self (fun A hA => ?_) (fun H' hH' => absurd hH' (Nat.not_lt_zero _))
    · have T : cTb O N (m2 79) := ⟨g1, g2, g3⟩
      refine hx_dn (hr101_32 (fun _ c => absurd c (by omega)) (fun _ _ c => absurd c (by omega)) (fun _ _ _ c => h0 (m2 79) _ T ?_ (fun c c1 c2 => ?_)) (fun _ _ _ c => h1 (m2 79) _ T ?_ ?_ ?_ (fun c c1 c2 => ?_)) (fun c => absurd c (by omega)) (fun c => absurd c (by omega)) (fun c => absurd c (by omega)) (fun c => absurd c (by omega)) (fun c => absurd c (by omega)) (fun c => absurd c (by omega)))
      · rw [Int.toNat_natCast] at c
        exact c
      · rw [gx_u_off c1, gx_u_off c1]
        exact f2 c c2
      · rw [Int.toNat_natCast] at c
        exact c
      · rw [gx_u_ne (by omega), gx_u_self, Int.toNat_natCast]
      · rw [gx_u_self, Int.toNat_natCast]
      · rw [gx_u_off c1, gx_u_off c1]
        exact f2 c c2
    · refine hx_dn (hr101_32 (fun c => absurd c (by omega)) (fun c => absurd c (by omega)) (fun c => absurd c (by omega)) (fun c => absurd c (by omega)) (fun _ c => absurd c (by omega)) (fun _ c => absurd c (by omega)) (fun _ c => absurd c (by omega)) (fun _ c => absurd c (by omega)) (fun _ _ c => ?_) (fun _ _ c => ?_))
      · rw [Int.toNat_natCast] at c
        rw [ew H (by omega)]
        refine ih m2 f2 g1 g2 (fun H' hH' => ?_)
        by_cases q : H' = H
        · subst q
          exact fun z => absurd c z
        · exact g3 H' (by omega)
      · rw [Int.toNat_natCast] at c
        have hG2 : cOf O m2 := by
          unfold cOf
          rw [f2 76 (by decide), f2 77 (by decide), f2 78 (by decide)]
          exact hG
        refine c102 hO h40 hG2 g2 hH c (fun m3 f3 q1 q2 q3 q4 => hx_dn (hr101_61 ?_))
        rw [ew H (by omega)]
        refine ih m3 (fun c hc => (f3 c hc).trans (f2 c hc)) (by rw [q2 0 (Nat.zero_le _)]; exact g1) q1 (fun H' hH' => ?_)
        by_cases q : H' = H
        · subst q
          intro _ o ho hb
          rw [q2 H' (Nat.le_refl _)]
          exact q4 o ho hb
        · intro z o ho hb
          rw [q2 H' (by omega)] at z ⊢
          have := g3 H' (by omega) z o ho hb
          have := q3 (H' ||| o.1)
          omega
    · by_cases q : A = 0
      · subst q
        exact .inr ⟨0, 0, ⟨[], fun o ho => absurd ho List.not_mem_nil, rfl, rfl, rfl⟩, gx_u_self, Nat.zero_le _⟩
      · left
        rw [gx_u_ne (by omega)]
        exact g A hA
  · refine hx_dn (hr101_2 (fun c => absurd c (by omega)) (fun _ => ?_))
    rw [ew k (by omega), Int.toNat_natCast]
    refine ih _ (fun c hc => by rw [gx_u_off hc]; exact f c hc) (fun A hA => ?_)
    by_cases q : A = k
    · subst q
      exact gx_u_self
    · rw [gx_u_ne (by omega)]
      exact g A (by omega)
/-! the reference -/
theorem r237 {o : Nat × Nat} {b : Int} (hO : tOk (O ++ [o]) N) (hb : b ≤ 2600000) (hT : rTb O (m0 111) b) (h : ∀ m', (∀ c, c ≠ 111 → m' c = m0 c) → rTb (O ++ [o]) (m' 111) (b + 63937) → Q none m') : hxn xs n yp_m237 0 [(0, .inr (.inl 86)), (1, .inl (o.1 : Int)), (2, .inl (o.2 : Int))] [] m0 Q := by
  have oO : o ∈ O ++ [o] := List.mem_append.mpr (.inr List.mem_cons_self)
  have o4 := tOk_lt hO oO
  have o9 := (hO.2 o oO).2
  refine hx_dn (hr237_0 ?_)
  have L : ∀ k : Nat, k ≤ 4096 → ∀ m1 : gx_M, (∀ c, c ≠ 111 → m1 c = m0 c) → (∀ A, A < 4096 → m1 111 A ≤ m0 111 A) → (∀ A, A ≤ k → A < 4096 → m1 111 A = m0 111 A) → (∀ S, k ≤ S → S < 4096 → m0 111 S ≠ 1000000000 → S ||| o.1 ≠ S → m1 111 (S ||| o.1) ≤ m0 111 S + (64 * (o.2 : Int) + 1)) → (∀ A, A < 4096 → m1 111 A = m0 111 A ∨ ∃ S, S < 4096 ∧ m0 111 S ≠ 1000000000 ∧ S ||| o.1 = A ∧ m1 111 A = m0 111 S + (64 * (o.2 : Int) + 1)) → hxn xs n yp_m237 4 [(0, .inr (.inl 86)), (1, .inl (o.1 : Int)), (2, .inl (o.2 : Int)), (3, .inl ((k : Int) - 1))] [] m1 Q := by
    intro k
    induction k with
    | zero =>
      intro _ m1 f g1 g2 g3 g4
      refine hx_dn (hr237_4 (by omega) (fun _ => h m1 f ?_) (fun c => absurd c (by omega)) (fun c => absurd c (by omega)) (fun c => absurd c (by omega)))
      exact rTb_put hO hb hT (g2 0 (Nat.le_refl _) (by decide)) g1 (fun S => g3 S (Nat.zero_le _)) g4
    | succ k ih =>
      intro hk m1 f g1 g2 g3 g4
      have ek : ((k + 1 : Nat) : Int) - 1 = (k : Int) := by omega
      have ew : gx_w ((k : Int) + (-1)) = (k : Int) - 1 := by
        rw [gx_w_id (by omega) (by omega)]
        omega
      have ew2 : (k : Int) + (-1) = (k : Int) - 1 := by omega
      rw [ek]
      have eT : m1 111 k = m0 111 k := g2 k (by omega) (by omega)
      have eo : gx_or (k : Int) (o.1 : Int) = ((k ||| o.1 : Nat) : Int) := hor_nat (by omega) (by omega)
      have lt : k ||| o.1 < 4096 := Nat.or_lt_two_pow (n := 12) (show k < 2 ^ 12 by omega) o4
      refine hx_dn (hr237_4 (by omega) (fun c => absurd c (by omega)) (fun _ c d => ?_) (fun _ c d => ?_) (fun _ c => ?_))
      · rw [eo] at d
        rw [ew2]
        refine ih (by omega) m1 f g1 (fun A hA => g2 A (by omega)) (fun S hS h4 hn hne => ?_) g4
        by_cases q : S = k
        · subst q
          exact absurd (by omega) hne
        · exact g3 S (by omega) h4 hn hne
      · rw [eo] at d
        rw [Int.toNat_natCast, eT] at c
        have bd : m0 111 k ≤ b ∧ 0 ≤ m0 111 k := by
          rcases hT.2.1 k (by omega) with q | ⟨q, P, cc, -, e⟩
          · exact absurd q c
          · exact ⟨q, by omega⟩
        have e64 : gx_w (64 * (o.2 : Int)) = 64 * (o.2 : Int) := gx_w_id (by omega) (by omega)
        rw [eo, Int.toNat_natCast, Int.toNat_natCast, eT, e64, gx_w_id (x := m0 111 k + 64 * (o.2 : Int)) (by omega) (by omega), gx_w_id (by omega) (by omega)]
        have gt : k < k ||| o.1 := Nat.lt_of_le_of_ne Nat.left_le_or (fun q => d (by omega))
        have fin : ∀ v : Int, v ≤ m1 111 (k ||| o.1) → v ≤ m0 111 k + (64 * (o.2 : Int) + 1) → (v = m1 111 (k ||| o.1) ∨ v = m0 111 k + (64 * (o.2 : Int) + 1)) → hxn xs n yp_m237 63 [(0, .inr (.inl 86)), (1, .inl (o.1 : Int)), (2, .inl (o.2 : Int)), (3, .inl (k : Int))] [.inl v, .inl ((k ||| o.1 : Nat) : Int), .inr (.inl 111)] m1 Q := fun v v1 v2 v3 => by
          refine hx_dn (hr237_63 ?_)
          rw [ew, Int.toNat_natCast]
          refine ih (by omega) _ (fun c hc => by rw [gx_u_off hc]; exact f c hc) (fun A hA => ?_) (fun A hA h4 => ?_) (fun S hS h4 hn hne => ?_) (fun A hA => ?_)
          · by_cases q : A = k ||| o.1
            · subst q
              rw [gx_u_self]
              have := g1 _ hA
              omega
            · rw [gx_u_ne (by omega)]
              exact g1 A hA
          · rw [gx_u_ne (by omega)]
            exact g2 A (by omega) h4
          · by_cases q : S = k
            · subst q
              rw [gx_u_self]
              exact v2
            · have := g3 S (by omega) h4 hn hne
              by_cases q2 : S ||| o.1 = k ||| o.1
              · rw [q2, gx_u_self]
                rw [q2] at this
                omega
              · rw [gx_u_ne (by omega)]
                exact this
          · by_cases q : A = k ||| o.1
            · subst q
              rw [gx_u_self]
              rcases v3 with e | e
              · rw [e]
                exact g4 _ hA
              · exact .inr ⟨k, by omega, c, rfl, e⟩
            · rw [gx_u_ne (by omega)]
              exact g4 A hA
        refine hx_dn (hr199_0 (fun q => fin _ q (by omega) (.inr (by omega))) (fun q => fin _ (Int.le_refl _) (by omega) (.inl rfl)))
      · rw [Int.toNat_natCast, eT] at c
        rw [ew2]
        refine ih (by omega) m1 f g1 (fun A hA => g2 A (by omega)) (fun S hS h4 hn hne => ?_) g4
        by_cases q : S = k
        · subst q
          exact absurd c hn
        · exact g3 S (by omega) h4 hn hne
  exact L 4096 (Nat.le_refl _) m0 (fun _ _ => rfl) (fun _ _ => Int.le_refl _) (fun _ _ _ => rfl) (fun S hS h4 => absurd hS (by omega)) (fun _ _ => .inl rfl)
def rAn (s : Nat → Int) (p w : Int) (v : Int) : Int := if v = 1000000000 then -2 else if w = 0 then gx_w (Int.tdiv v 64) else if w = 1 then Int.tmod v 64 else if gx_w (Int.tdiv v 64) ≤ s (1120 + p.toNat) then 1 else 0
def rTf (m m' : gx_M) : Prop := ∀ c, c ≠ 102 → c ≠ 103 → c ≠ 111 → m' c = m c
theorem r236l (hL : lawR xs W m0) (hs : sOK (m0 87)) (hp : 0 ≤ p ∧ p < 8) (hN : N < 4096) (hR0 : rTb [] (m0 111) 0) (h : ∀ (R : Nat → Int) (m' : gx_M), rTb (oLs W (m0 87) p N 40) R 2557480 → rTf m0 m' → Q (some (.inl (rAn (m0 87) p a3 (R N)))) m') : hxn xs n yp_m236 81 [(0, .inr (.inl 86)), (1, .inl p), (3, .inl a3), (4, .inl (N : Int)), (5, .inl 0)] [] m0 Q := by
  refine hloop (N := 40) (P := fun y => ∀ m1 : gx_M, rTf m0 m1 → rTb (oLs W (m0 87) p N y) (m1 111) (63937 * (y : Int)) → hxn xs n yp_m236 81 [(0, .inr (.inl 86)), (1, .inl p), (3, .inl a3), (4, .inl (N : Int)), (5, .inl (y : Int))] [] m1 Q) (fun m1 f g => ?_) (fun y hy ih m1 f g => ?_) 0 (Nat.zero_le _) m0 (fun _ _ _ _ => rfl) (by
    have e : (63937 : Int) * ((0 : Nat) : Int) = 0 := by decide
    rw [e]
    exact hR0)
  · have e87 : m1 87 = m0 87 := f 87 (by decide) (by decide) (by decide)
    have hh := h (m1 111) m1 g f
    have ep : (gx_w (1120 + p)).toNat = 1120 + p.toNat := by
      rw [gx_w_id (by omega) (by omega)]
      omega
    unfold rAn at hh
    refine hx_dn (hr236_81 (fun _ c d e k => ?_) (fun _ c d e k => ?_) (fun _ c d e => ?_) (fun _ c d => ?_) (fun _ c => ?_) (fun c => absurd c (by decide)) (fun c => absurd c (by decide)) (fun c => absurd c (by decide)) (fun c => absurd c (by decide)) (fun c => absurd c (by decide)))
    · rw [Int.toNat_natCast] at c k
      rw [e87, ep] at k
      rw [if_neg c, if_neg d, if_neg e, if_neg (by omega)] at hh
      exact hh
    · rw [Int.toNat_natCast] at c k
      rw [e87, ep] at k
      rw [if_neg c, if_neg d, if_neg e, if_pos k] at hh
      exact hh
    · rw [Int.toNat_natCast] at c ⊢
      rw [if_neg c, if_neg d, if_pos e] at hh
      exact hh
    · rw [Int.toNat_natCast] at c ⊢
      rw [if_neg c, if_pos d] at hh
      exact hh
    · rw [Int.toNat_natCast] at c
      rw [if_pos c] at hh
      exact hh
  · have e87 : m1 87 = m0 87 := f 87 (by decide) (by decide) (by decide)
    have hL1 : lawR xs W m1 := lawR_c (hPL_of (fun c k hc => congrFun (f c (by omega) (by omega) (by omega)) k)) hL
    have no : ∀ m2 : gx_M, (∀ c, c ≠ 102 → c ≠ 103 → m2 c = m1 c) → ¬ oC W (m0 87) p N y = true → hxn xs n yp_m236 81 [(0, .inr (.inl 86)), (1, .inl p), (3, .inl a3), (4, .inl (N : Int)), (5, .inl (gx_w ((y : Int) + 1)))] [] m2 Q := fun m2 f2 c => by
      rw [ew_u (by omega)]
      refine ih m2 (fun c a b d => (f2 c a b).trans (f c a b d)) ?_
      rw [oLs_f c, f2 111 (by decide) (by decide)]
      refine ⟨g.1, fun A hA => ?_, g.2.2⟩
      rcases g.2.1 A hA with q | ⟨q, k⟩
      · exact .inl q
      · exact .inr ⟨by omega, k⟩
    have w80 : (gx_w (80 + (y : Int))).toNat = 80 + y := wz (by decide) (by omega)
    have hw := hs.own y hy
    have ipw : aPw (m0 87) (y : Int) ↔ 0 ≤ m0 87 (280 + y) := by
      unfold aPw
      rw [w280 hy]
    have iy := aYr_iff (s := m0 87) hy
    have sy : m1 87 = m0 87 → True := fun _ => trivial
    refine hx_dn (hr236_81 (fun c => absurd c (by omega)) (fun c => absurd c (by omega)) (fun c => absurd c (by omega)) (fun c => absurd c (by omega)) (fun c => absurd c (by omega)) (fun _ _ c => no m1 (fun _ _ _ => rfl) (fun q => ?_)) (fun _ _ _ c => no m1 (fun _ _ _ => rfl) (fun q => ?_)) (fun _ c1 c2 c3 c4 => ?_) (fun _ _ _ _ c => no m1 (fun _ _ _ => rfl) (fun q => ?_)) (fun _ c => no m1 (fun _ _ _ => rfl) (fun q => ?_)))
    · rw [e87, w240 hy] at c
      exact (oC_iff.mp q).1.2.1 c
    · rw [e87] at c
      exact (oC_iff.mp q).1.2.2 (ipw.mp c)
    · rw [e87] at c1 c3
      rw [e87, w240 hy] at c2
      rw [e87, w80, oMk_eq hs hN hy] at c4
      rw [e87, w240 hy]
      refine rWor hL1 (by rw [e87]; exact hs) hy (by omega) (fun m2 f2 => hx_dn (hr236_157 ?_))
      have e87' : m2 87 = m0 87 := (f2 87 (by decide) (by decide)).trans e87
      rw [e87]
      refine rBar (lawR_c (rLf_L f2) hL1) (by rw [e87']; exact hs) hy hp (fun m3 f3 => ?_)
      rw [e87']
      have ff : ∀ c, c ≠ 102 → c ≠ 103 → m3 c = m1 c := fun c a b => (f3 c a b).trans (f2 c a b)
      have e87'' : m3 87 = m0 87 := (ff 87 (by decide) (by decide)).trans e87
      have pb := oPr_bd (W := W) (s := m0 87) (y := y)
      by_cases bar : (W (env1 (m0 87) y p (oPr W (m0 87) y)) 110).isSome = true
      · have bar' : (W (env1 (m0 87) y p (lClip 999 (W (env1 (m0 87) y (m0 87 (240 + y)) 0) 118))) 110).isSome = true := bar
        rw [if_pos bar']
        exact hx_dn (hr236_168 (fun _ => no m3 ff (fun q => (oC_iff.mp q).2.2 bar)) (fun c => absurd c (by decide)))
      · have bar' : ¬ (W (env1 (m0 87) y p (lClip 999 (W (env1 (m0 87) y (m0 87 (240 + y)) 0) 118))) 110).isSome = true := bar
        rw [if_neg bar']
        have ok : oC W (m0 87) p N y = true := oC_iff.mpr ⟨⟨iy.mp c1, c2, fun q => c3 (ipw.mpr q)⟩, fun z => c4 (by rw [z]; rfl), bar⟩
        refine hx_dn (hr236_168 (fun c => absurd rfl c) (fun _ => ?_))
        have pe : lClip 999 (W (env1 (m0 87) y (m0 87 (240 + y)) 0) 118) = (((oPr W (m0 87) y).toNat : Nat) : Int) := (Int.toNat_of_nonneg pb.1).symm
        rw [e87'', w80, oMk_eq hs hN hy, pe]
        have okN := oLs_ok (W := W) (s := m0 87) (p := p) hN (y + 1)
        rw [oLs_t ok] at okN
        refine r237 (o := oOf W (m0 87) N y) (O := oLs W (m0 87) p N y) (b := 63937 * (y : Int)) okN (by omega) (by rw [ff 111 (by decide) (by decide)]; exact g) (fun m4 f4 g4 => hx_dn (hr236_190 ?_))
        rw [ew_u (by omega)]
        refine ih m4 (fun c a b d => (f4 c d).trans ((ff c a b).trans (f c a b d))) ?_
        rw [oLs_t ok]
        have eb : 63937 * ((y + 1 : Nat) : Int) = 63937 * (y : Int) + 63937 := by omega
        rw [eb]
        exact g4
    · rw [e87, w80, oMk_eq hs hN hy] at c
      exact (oC_iff.mp q).2.1 (by omega)
    · rw [e87] at c
      exact c (iy.mpr (oC_iff.mp q).1.1)
theorem r236i (h : ∀ m', (∀ c, c ≠ 111 → m' c = m c) → rTb [] (m' 111) 0 → hxn xs n yp_m236 81 [(0, .inr (.inl 86)), (1, .inl p), (3, .inl a3), (4, .inl (N : Int)), (5, .inl 0)] [] m' Q) : hxn xs n yp_m236 45 [(0, .inr (.inl 86)), (1, .inl p), (3, .inl a3), (4, .inl (N : Int)), (5, .inl 0)] [] m Q := by
  have ew : ∀ k : Nat, k < 5000 → gx_w ((k : Int) + 1) = ((k + 1 : Nat) : Int) := fun k hk => by
    rw [gx_w_id (by omega) (by omega)]
    omega
  refine hloop (N := 4096) (P := fun k => ∀ m1 : gx_M, (∀ c, c ≠ 111 → m1 c = m c) → (∀ A, A < k → m1 111 A = if A = 0 then 0 else 1000000000) → hxn xs n yp_m236 45 [(0, .inr (.inl 86)), (1, .inl p), (3, .inl a3), (4, .inl (N : Int)), (5, .inl (k : Int))] [] m1 Q) (fun m1 f g => ?_) (fun k hk ih m1 f g => ?_) 0 (Nat.zero_le _) m (fun _ _ => rfl) (fun A hA => absurd hA (Nat.not_lt_zero _))
  · refine hx_dn (hr236_45 (fun _ => h m1 f ⟨?_, fun A hA => ?_, fun A hA hn o ho => absurd ho List.not_mem_nil⟩) (fun c => absurd c (by decide)) (fun c => absurd c (by decide)))
    · rw [g 0 (by decide)]
      rfl
    · by_cases q : A = 0
      · subst q
        exact .inr ⟨by rw [g 0 (by decide)]; exact Int.le_refl _, 0, 0, ⟨[], fun o ho => absurd ho List.not_mem_nil, rfl, rfl, rfl⟩, by rw [g 0 (by decide)]; rfl⟩
      · left
        rw [g A hA, if_neg q]
  · refine hx_dn (hr236_45 (fun c => absurd c (by omega)) (fun _ c => ?_) (fun _ c => ?_))
    · rw [ew k (by omega), Int.toNat_natCast]
      refine ih _ (fun c hc => by rw [gx_u_off hc]; exact f c hc) (fun A hA => ?_)
      by_cases q : A = k
      · subst q
        rw [gx_u_self, if_neg (by omega)]
      · rw [gx_u_ne (by omega)]
        exact g A (by omega)
    · have e0 : k = 0 := by omega
      subst e0
      refine ih _ (fun c hc => by rw [gx_u_off hc]; exact f c hc) (fun A hA => ?_)
      have q : A = 0 := by omega
      subst q
      exact gx_u_self
theorem ww_taught (hR : hWr xs m) : hxn xs n yp_m99 0 [(0, .inr (.inl 0)), (1, .inl a1), (2, .inl a2), (3, .inl a3)] [] m (fun r1 m1 => hxn xs n yp_m236 0 [(0, .inr (.inl 86)), (1, .inl a1), (2, .inl a2), (3, .inl a3)] [] m1 (fun r2 m2 => hWr xs m2 ∧ r2 = r1)) := by
  have hR' := hR
  obtain ⟨hs, hB, -, -, ⟨W, hL⟩, -⟩ := hR
  have bad : ¬ (aPers (m 87) a1 ∧ (0 ≤ a2 ∧ a2 ≤ 4095) ∧ 0 ≤ a3 ∧ a3 ≤ 2) → hxn xs n yp_m236 0 [(0, .inr (.inl 86)), (1, .inl a1), (2, .inl a2), (3, .inl a3)] [] m (fun r2 m2 => hWr xs m2 ∧ r2 = some (.inl (-1))) := fun c => hx_dn (hr236_0 (fun d1 d2 d3 => absurd ⟨d1, d2, d3⟩ c) (fun _ _ _ => ⟨hR', rfl⟩) (fun _ _ => ⟨hR', rfl⟩) (fun _ => ⟨hR', rfl⟩))
  refine hx_dn (hr99_0 (fun _ c => bad (fun q => by omega)) (fun _ _ c => bad (fun q => by omega)) (fun _ _ _ c => bad (fun q => by omega)) (fun c1 c2 c3 c4 c5 => ?_) (fun _ _ _ _ c => bad (fun q => by omega)) (fun c => bad (fun q => c ((cP_iff hB).mpr q.1))))
  have p1 : aPers (m 87) a1 := (cP_iff hB).mp c1
  have hp : 0 ≤ a1 ∧ a1 < 8 := ⟨p1.1, p1.2.1⟩
  obtain ⟨S, rfl⟩ : ∃ S : Nat, a2 = (S : Int) := ⟨a2.toNat, by omega⟩
  obtain ⟨X, hX, hX2⟩ := hOr_bd (f := aOwn (m 87) a1) (v := fun j => m 87 (80 + j)) 40 hs.skl
  refine c60 hB (hx_dn (hr99_46 (c64 hB (hx_dn (hr99_49 ?_)))))
  obtain ⟨N, hN⟩ : ∃ N, N = S &&& (2 ^ 32 - (X + 1)) := ⟨_, rfl⟩
  have eN : gx_and (S : Int) (gx_xor (hOr (aOwn (m 87) a1) (fun j => m 87 (80 + j)) 40) (-1)) = ((N : Nat) : Int) := by rw [hX, hand_not (by omega) (by omega), hN]
  have N4 : N < 4096 := by
    rw [hN]
    exact Nat.lt_of_le_of_lt Nat.and_le_left (by omega)
  rw [eN]
  have okN := oLs_ok (W := W) (s := m 87) (p := a1) N4 40
  refine c100 hL hs hB hp N4 (fun m1 g1 f1 => hx_dn (hr99_72 ?_))
  have e87 : m1 87 = m 87 := funext (fun k => f1 87 k (by decide) (by omega) (by decide) (by decide) (by decide) (by decide))
  have hw : ∀ m2 : gx_M, (∀ c, c ≠ 76 → c ≠ 79 → m2 c = m1 c) → hWr xs m2 := fun m2 f2 => hWr_c (hPR_of (fun c k hc => by
    rw [f2 c (by omega) (by omega)]
    exact f1 c k (by omega) (by omega) (by omega) (by omega) (by omega) (by omega))) hR'
  have m87 : ∀ m2 : gx_M, (∀ c, c ≠ 76 → c ≠ 79 → m2 c = m1 c) → m2 87 = m 87 := fun m2 f2 => (f2 87 (by decide) (by decide)).trans e87
  have hL2 : ∀ m2 : gx_M, (∀ c, c ≠ 76 → c ≠ 79 → m2 c = m1 c) → lawR xs W m2 := fun m2 f2 => lawR_c (hPL_of (fun c k hc => by
    rw [f2 c (by omega) (by omega)]
    exact f1 c k (by omega) (by omega) (by omega) (by omega) (by omega) (by omega))) hL
  have ref : ∀ (m2 : gx_M) (v : Int), (∀ c, c ≠ 76 → c ≠ 79 → m2 c = m1 c) → (∀ R, rTb (oLs W (m 87) a1 N 40) R 2557480 → v = rAn (m 87) a1 a3 (R N)) → hxn xs n yp_m236 0 [(0, .inr (.inl 86)), (1, .inl a1), (2, .inl (S : Int)), (3, .inl a3)] [] m2 (fun r2 m3 => hWr xs m3 ∧ r2 = some (.inl v)) := fun m2 v f2 hv => by
    have q87 := m87 m2 f2
    refine hx_dn (hr236_0 (fun _ _ _ => ?_) (fun _ _ c => absurd ⟨c4, c5⟩ c) (fun _ c => absurd ⟨c2, c3⟩ c) (fun c => absurd (by rw [q87]; exact p1) c))
    refine r207 (by rw [q87]; exact hs) (hx_dn (hr236_37 ?_))
    rw [q87, eN]
    refine r236i (fun m3 f3 hT => ?_)
    have s87 : m3 87 = m 87 := (f3 87 (by decide)).trans q87
    refine r236l (W := W) (lawR_c (hPL_of (fun c k hc => by rw [f3 c (by omega)])) (hL2 m2 f2)) (by rw [s87]; exact hs) hp N4 hT (fun R m4 hT4 f4 => ⟨?_, ?_⟩)
    · exact hWr_c (hPR_of (fun c k hc => by rw [f4 c (by omega) (by omega) (by omega), f3 c (by omega)])) (hw m2 f2)
    · rw [s87] at hT4 ⊢
      rw [hv R hT4]
  have ec : ∀ (L R : Nat → Int), cTb (oLs W (m 87) a1 N 40) N L → rTb (oLs W (m 87) a1 N 40) R 2557480 → (L N = 1000000 → rAn (m 87) a1 a3 (R N) = -2) ∧ (L N ≠ 1000000 → ∃ P c : Nat, gx_w (Int.tdiv (L N) 16) = (P : Int) ∧ Int.tmod (L N) 16 = (c : Int) ∧ rAn (m 87) a1 a3 (R N) = (if a3 = 0 then (P : Int) else if a3 = 1 then (c : Int) else if (P : Int) ≤ m 87 (1120 + a1.toNat) then 1 else 0)) := fun L R hc hr => by
    rcases least_eq okN (by decide) hc hr with ⟨q1, q2⟩ | ⟨P, c, c12, p12, q1, q2⟩
    · refine ⟨fun _ => ?_, fun h => absurd q1 h⟩
      rw [q2]
      rfl
    · have d1 : Int.tdiv (L N) 16 = (P : Int) := by
        have e : L N = ((16 * P + c : Nat) : Int) := by omega
        have t := tdvt (16 * P + c) 16
        rw [e]
        have t : Int.tdiv ((16 * P + c : Nat) : Int) 16 = _ := t
        rw [t]
        omega
      have d2 : Int.tmod (L N) 16 = (c : Int) := by
        have e : L N = ((16 * P + c : Nat) : Int) := by omega
        have t := tmdt (16 * P + c) 16
        rw [e]
        have t : Int.tmod ((16 * P + c : Nat) : Int) 16 = _ := t
        rw [t]
        omega
      have d3 : Int.tdiv (R N) 64 = (P : Int) := by
        have e : R N = ((64 * P + c : Nat) : Int) := by omega
        have t := tdvt (64 * P + c) 64
        rw [e]
        have t : Int.tdiv ((64 * P + c : Nat) : Int) 64 = _ := t
        rw [t]
        omega
      have d4 : Int.tmod (R N) 64 = (c : Int) := by
        have e : R N = ((64 * P + c : Nat) : Int) := by omega
        have t := tmdt (64 * P + c) 64
        rw [e]
        have t : Int.tmod ((64 * P + c : Nat) : Int) 64 = _ := t
        rw [t]
        omega
      refine ⟨fun h => absurd h (by omega), fun _ => ⟨P, c, by rw [d1]; exact gx_wt (by omega), d2, ?_⟩⟩
      unfold rAn
      rw [d3, d4, gx_wt (by omega), if_neg (by omega)]
  have o40 := oLs_len (W := W) (s := m 87) (p := a1) (N := N) 40
  refine c101 okN o40 g1 (fun L m2 hT hz f2 => ?_) (fun L m2 hT hz e5 e6 f2 => ?_)
  · refine hx_dn (hr99_81 (fun c => absurd rfl c) (fun c => absurd rfl c) (fun c => absurd rfl c) (fun c => absurd rfl c) (fun _ => ref m2 (-2) f2 (fun R hr => ?_)))
    exact ((ec L R hT hr).1 hz).symm
  · have e6c : m2 6 a1.toNat = m 87 (1120 + a1.toNat) := by
      rw [f2 6 (by decide) (by decide), f1 6 _ (by decide) (by omega) (by decide) (by decide) (by decide) (by decide)]
      exact sB5_coin hB _ (by omega)
    have pick : ∀ v : Int, (∀ P c : Nat, m2 76 5 = (P : Int) → m2 76 6 = (c : Int) → v = (if a3 = 0 then (P : Int) else if a3 = 1 then (c : Int) else if (P : Int) ≤ m 87 (1120 + a1.toNat) then 1 else 0)) → ∀ R, rTb (oLs W (m 87) a1 N 40) R 2557480 → v = rAn (m 87) a1 a3 (R N) := fun v hv R hr => by
      obtain ⟨P, c, d1, d2, d3⟩ := (ec L R hT hr).2 hz
      rw [d3]
      exact hv P c (e5.trans d1) (e6.trans d2)
    refine hx_dn (hr99_81 (fun _ c d => ref m2 _ f2 (pick _ (fun P cc h5 h6 => ?_))) (fun _ c d => ref m2 _ f2 (pick _ (fun P cc h5 h6 => ?_))) (fun _ c d => ref m2 _ f2 (pick _ (fun P cc h5 h6 => ?_))) (fun _ c d => ref m2 _ f2 (pick _ (fun P cc h5 h6 => ?_))) (fun c => absurd c (by decide)))
    · rw [if_neg d, if_pos (by omega)]
      exact h6
    · rw [if_pos d]
      exact h5
    · rw [e6c, h5] at d
      rw [if_neg (by omega), if_neg (by omega), if_neg (by omega)]
    · rw [e6c, h5] at d
      rw [if_neg (by omega), if_neg (by omega), if_pos d]
end TG
