/-! the text as the reference reads it: its code, what waits -/
def lop (s : Int) : Int := if s = 0 then 0 else if s = 1 then 1 else if s = 43 then 2 else if s = 45 then 3 else if s = 42 then 4 else if s = 47 then 5 else if s = 37 then 6 else if s = 60 then 7 else if s = 62 then 8 else if s = 61 then 9 else if s = 33 then 10 else if s = 38 then 11 else 12
def lfa (c : Int) : Int := if c = 116 then 0 else if c = 121 then 1 else if c = 100 then 2 else if c = 108 then 3 else if c = 111 then 4 else if c = 115 then 5 else if c = 109 then 6 else if c = 107 then 7 else if c = 104 then 8 else if c = 112 then 9 else if c = 97 then 10 else if c = 99 then 11 else if c = 101 then 12 else if c = 122 then 13 else -1
def larg (c : Int × Int) : Int := if c.1 = 1 then lfa c.2 else c.2
def lenc (c : Int × Int) : Int := 1048576 * lop c.1 + larg c
theorem lop_bd (s : Int) : 0 ≤ lop s ∧ lop s ≤ 12 := by
  unfold lop
  omega
def rTx (T : Nat → Int) (L p : Nat) (m : gx_M) : Prop := m 86 5 = (p : Int) ∧ m 86 6 = (L : Int) ∧ ∀ k, k < L → gx_and (m 90 k) 255 = T k
def rKd (K : hCode) (m : gx_M) : Prop := m 86 10 = (K.length : Int) ∧ ∀ i c, K[i]? = some c → m 91 i = lenc c
def rWd (W : hCode) (m : gx_M) : Prop := m 86 11 = (W.length : Int) ∧ ∀ i q, W[i]? = some q → m 92 i = 1048576 * q.1 + q.2 ∧ 0 ≤ q.1 ∧ q.1 ≤ 14 ∧ 0 ≤ q.2 ∧ q.2 ≤ 240
def rFr (m0 m : gx_M) : Prop := (∀ c, c ≠ 86 → c ≠ 91 → c ≠ 92 → m c = m0 c) ∧ ∀ k, k ≠ 5 → k ≠ 7 → k ≠ 8 → k ≠ 9 → k ≠ 10 → k ≠ 11 → m 86 k = m0 86 k
def rS (T : Nat → Int) (L : Nat) (m0 : gx_M) (p : Nat) (K W : hCode) (o : Nat) (m : gx_M) : Prop := rTx T L p m ∧ rKd K m ∧ rWd W m ∧ m 86 9 = (o : Int) ∧ rFr m0 m ∧ p ≤ L ∧ L ≤ 240 ∧ K.length ≤ 240 ∧ W.length ≤ 240 ∧ o ≤ 6
def rF (m0 : gx_M) (f : Int) (m : gx_M) : Prop := m 86 7 = f ∧ rFr m0 m
def wtop (W : hCode) : Int := match W.reverse with
  | [] => -1
  | q :: _ => q.1
theorem wtop_nil : wtop [] = -1 := rfl
theorem wtop_app (W : hCode) (q : Int × Int) : wtop (W ++ [q]) = q.1 := by
  unfold wtop
  rw [List.reverse_append]
  rfl
theorem lw_cases : ∀ W : hCode, W = [] ∨ ∃ V q, W = V ++ [q]
  | [] => .inl rfl
  | a :: r => by
    rcases lw_cases r with rfl | ⟨V, q, rfl⟩
    · exact .inr ⟨[], a, rfl⟩
    · exact .inr ⟨a :: V, q, rfl⟩
/-- a state out of another one, field by field -/
theorem rS_of {T : Nat → Int} {L p p' o o' : Nat} {m0 m m' : gx_M} {K K' W W' : hCode} (hS : rS T L m0 p K W o m) (h5 : m' 86 5 = (p' : Int)) (h10 : m' 86 10 = (K'.length : Int)) (hK : ∀ i c, K'[i]? = some c → m' 91 i = lenc c) (h11 : m' 86 11 = (W'.length : Int)) (hW : ∀ i q, W'[i]? = some q → m' 92 i = 1048576 * q.1 + q.2 ∧ 0 ≤ q.1 ∧ q.1 ≤ 14 ∧ 0 ≤ q.2 ∧ q.2 ≤ 240) (h9 : m' 86 9 = (o' : Int)) (hf : ∀ c k, c ≠ 91 → c ≠ 92 → ¬ (c = 86 ∧ (k = 5 ∨ k = 7 ∨ k = 8 ∨ k = 9 ∨ k = 10 ∨ k = 11)) → m' c k = m c k) (a1 : p' ≤ L) (a2 : K'.length ≤ 240) (a3 : W'.length ≤ 240) (a4 : o' ≤ 6) : rS T L m0 p' K' W' o' m' := by
  obtain ⟨⟨t1, t2, t3⟩, -, -, -, ⟨f1, f2⟩, b1, b2, -, -, -⟩ := hS
  refine ⟨⟨h5, ?_, fun k hk => ?_⟩, ⟨h10, hK⟩, ⟨h11, hW⟩, h9, ⟨fun c c1 c2 c3 => ?_, fun k k1 k2 k3 k4 k5 k6 => ?_⟩, a1, b2, a2, a3, a4⟩
  · rw [hf 86 6 (by omega) (by omega) (by omega)]
    exact t2
  · rw [hf 90 k (by omega) (by omega) (by omega)]
    exact t3 k hk
  · funext k
    rw [hf c k c2 c3 (by omega)]
    exact congrFun (f1 c c1 c2 c3) k
  · rw [hf 86 k (by omega) (by omega) (by omega)]
    exact f2 k k1 k2 k3 k4 k5 k6
section RT
variable {xs : List Int32} {n : Nat} {Q : hQ} {T : Nat → Int} {L p o : Nat} {m0 m : gx_M} {K W : hCode}
theorem rs_pl (hS : rS T L m0 p K W o m) : m 86 5 = (p : Int) := hS.1.1
theorem rs_K (hS : rS T L m0 p K W o m) : m 86 10 = (K.length : Int) := hS.2.1.1
theorem rs_W (hS : rS T L m0 p K W o m) : m 86 11 = (W.length : Int) := hS.2.2.1.1
theorem rs_o (hS : rS T L m0 p K W o m) : m 86 9 = (o : Int) := hS.2.2.2.1
theorem rs_le (hS : rS T L m0 p K W o m) : p ≤ L := hS.2.2.2.2.2.1
theorem rs_L (hS : rS T L m0 p K W o m) : L ≤ 240 := hS.2.2.2.2.2.2.1
theorem rs_kl (hS : rS T L m0 p K W o m) : K.length ≤ 240 := hS.2.2.2.2.2.2.2.1
theorem rs_wl (hS : rS T L m0 p K W o m) : W.length ≤ 240 := hS.2.2.2.2.2.2.2.2.1
theorem rs_ol (hS : rS T L m0 p K W o m) : o ≤ 6 := hS.2.2.2.2.2.2.2.2.2
theorem rs_he (hS : rS T L m0 p K W o m) : aHere m = tx T L p := by
  obtain ⟨⟨t1, t2, t3⟩, -, -, -, -, b1, -⟩ := hS
  unfold aHere
  rw [t1, t2]
  by_cases c : p < L
  · rw [if_neg (by omega), Int.toNat_natCast, t3 p c, tx_eq c]
  · rw [if_pos (by omega), tx_no (by omega)]
theorem rs_fr (hS : rS T L m0 p K W o m) : rFr m0 m := hS.2.2.2.2.1
theorem rs172 (hS : rS T L m0 p K W o m) {a : Int} (ha : 0 ≤ a ∧ a ≤ 9) (h : ∀ m', rF m0 (lfl a p) m' → Q (some (.inl 0)) m') : hxn xs n yp_m172 0 [(0, .inr (.inl 86)), (1, .inl a), (2, .inl (p : Int))] [] m Q := by
  have hp := rs_le hS
  have hL := rs_L hS
  obtain ⟨f1, f2⟩ := rs_fr hS
  refine hx_dn (hs172 (h _ ⟨?_, fun c c1 c2 c3 => ?_, fun k k1 k2 k3 k4 k5 k6 => ?_⟩))
  · rw [gx_u_self, gx_w_id (x := (-1000) * a) (by omega) (by omega), gx_w_id (by omega) (by omega)]
    rfl
  · funext k
    rw [gx_u_ne (by omega)]
    exact congrFun (f1 c c1 c2 c3) k
  · rw [gx_u_ne (by omega)]
    exact f2 k k1 k2 k3 k4 k5 k6
/-- a step on -/
theorem rs_st (hS : rS T L m0 p K W o m) (hp : p < L) : rS T L m0 (p + 1) K W o (gx_u m 86 5 (gx_w (m 86 5 + 1))) := by
  have hL := rs_L hS
  refine rS_of hS ?_ ?_ (fun i c hc => ?_) ?_ (fun i q hq => ?_) ?_ (fun c k c1 c2 c3 => ?_) (by omega) (rs_kl hS) (rs_wl hS) (rs_ol hS)
  · rw [gx_u_self, rs_pl hS, gx_w_id (by omega) (by omega)]
    omega
  · rw [gx_u_ne (by omega)]
    exact rs_K hS
  · rw [gx_u_ne (by omega)]
    exact hS.2.1.2 i c hc
  · rw [gx_u_ne (by omega)]
    exact rs_W hS
  · rw [gx_u_ne (by omega)]
    exact hS.2.2.1.2 i q hq
  · rw [gx_u_ne (by omega)]
    exact rs_o hS
  · rw [gx_u_ne (by omega)]
/-- a row of code -/
theorem rs178 (hS : rS T L m0 p K W o m) {a v : Int} {c : Int × Int} (hc : lenc c = 1048576 * a + v) (ha : 0 ≤ a ∧ a ≤ 14) (hv : 0 ≤ v ∧ v ≤ 100000) (hk : K.length < 240) (h : ∀ m', rS T L m0 p (K ++ [c]) W o m' → Q none m') : hxn xs n yp_m178 0 [(0, .inr (.inl 86)), (1, .inl a), (2, .inl v)] [] m Q := by
  refine hx_dn (hr178_0 (h _ ?_))
  rw [rs_K hS, Int.toNat_natCast, gx_w_id (x := 1048576 * a) (by omega) (by omega), gx_w_id (x := 1048576 * a + v) (by omega) (by omega), gx_w_id (by omega) (by omega)]
  refine rS_of hS ?_ ?_ (fun i d hd => ?_) ?_ (fun i q hq => ?_) ?_ (fun c k c1 c2 c3 => ?_) (rs_le hS) (by rw [List.length_append, List.length_singleton]; omega) (rs_wl hS) (rs_ol hS)
  · rw [gx_u_ne (by omega), gx_u_ne (by omega)]
    exact rs_pl hS
  · rw [gx_u_self, List.length_append, List.length_singleton]
    omega
  · rcases lk_app hd with hd | ⟨rfl, rfl⟩
    · have := lk_lt hd
      rw [gx_u_ne (by omega), gx_u_ne (by omega)]
      exact hS.2.1.2 i d hd
    · rw [gx_u_ne (by omega), gx_u_self, hc]
  · rw [gx_u_ne (by omega), gx_u_ne (by omega)]
    exact rs_W hS
  · rw [gx_u_ne (by omega), gx_u_ne (by omega)]
    exact hS.2.2.1.2 i q hq
  · rw [gx_u_ne (by omega), gx_u_ne (by omega)]
    exact rs_o hS
  · rw [gx_u_ne (by omega), gx_u_ne (by omega)]
/-- one more that waits -/
theorem rs_pu (hS : rS T L m0 p K W o m) {a v : Int} (ha : 0 ≤ a ∧ a ≤ 14) (hv : 0 ≤ v ∧ v ≤ 240) (hw : W.length < 240) : rS T L m0 p K (W ++ [(a, v)]) o (gx_u (gx_u m 92 (m 86 11).toNat (1048576 * a + v)) 86 11 (gx_w (m 86 11 + 1))) := by
  rw [rs_W hS, Int.toNat_natCast, gx_w_id (by omega) (by omega)]
  refine rS_of hS ?_ ?_ (fun i d hd => ?_) ?_ (fun i q hq => ?_) ?_ (fun c k c1 c2 c3 => ?_) (rs_le hS) (rs_kl hS) (by rw [List.length_append, List.length_singleton]; omega) (rs_ol hS)
  · rw [gx_u_ne (by omega), gx_u_ne (by omega)]
    exact rs_pl hS
  · rw [gx_u_ne (by omega), gx_u_ne (by omega)]
    exact rs_K hS
  · rw [gx_u_ne (by omega), gx_u_ne (by omega)]
    exact hS.2.1.2 i d hd
  · rw [gx_u_self, List.length_append, List.length_singleton]
    omega
  · rcases lk_app hq with hq | ⟨rfl, rfl⟩
    · have := lk_lt hq
      rw [gx_u_ne (by omega), gx_u_ne (by omega)]
      exact hS.2.2.1.2 i q hq
    · rw [gx_u_ne (by omega), gx_u_self]
      exact ⟨rfl, ha.1, ha.2, hv.1, hv.2⟩
  · rw [gx_u_ne (by omega), gx_u_ne (by omega)]
    exact rs_o hS
  · rw [gx_u_ne (by omega), gx_u_ne (by omega)]
/-- the last one that waited is gone -/
theorem rs_po {q : Int × Int} (hS : rS T L m0 p K (W ++ [q]) o m) : rS T L m0 p K W o (gx_u m 86 11 (gx_w (m 86 11 - 1))) := by
  have hw := rs_wl hS
  rw [List.length_append, List.length_singleton] at hw
  have e : m 86 11 - 1 = (W.length : Int) := by
    rw [rs_W hS, List.length_append, List.length_singleton]
    omega
  rw [e, gx_w_id (by omega) (by omega)]
  refine rS_of hS ?_ ?_ (fun i d hd => ?_) ?_ (fun i r hr => ?_) ?_ (fun c k c1 c2 c3 => ?_) (rs_le hS) (rs_kl hS) (by omega) (rs_ol hS)
  · rw [gx_u_ne (by omega)]
    exact rs_pl hS
  · rw [gx_u_ne (by omega)]
    exact rs_K hS
  · rw [gx_u_ne (by omega)]
    exact hS.2.1.2 i d hd
  · rw [gx_u_self]
  · rw [gx_u_ne (by omega)]
    exact hS.2.2.1.2 i r (by rw [lk_appl (lk_lt hr)]; exact hr)
  · rw [gx_u_ne (by omega)]
    exact rs_o hS
  · rw [gx_u_ne (by omega)]
/-- how many are open -/
theorem rs_op (hS : rS T L m0 p K W o m) {o' : Nat} {v : Int} (hv : v = (o' : Int)) (ho : o' ≤ 6) : rS T L m0 p K W o' (gx_u m 86 9 v) := by
  refine rS_of hS ?_ ?_ (fun i d hd => ?_) ?_ (fun i r hr => ?_) ?_ (fun c k c1 c2 c3 => ?_) (rs_le hS) (rs_kl hS) (rs_wl hS) ho
  · rw [gx_u_ne (by omega)]
    exact rs_pl hS
  · rw [gx_u_ne (by omega)]
    exact rs_K hS
  · rw [gx_u_ne (by omega)]
    exact hS.2.1.2 i d hd
  · rw [gx_u_ne (by omega)]
    exact rs_W hS
  · rw [gx_u_ne (by omega)]
    exact hS.2.2.1.2 i r hr
  · rw [gx_u_self]
    exact hv
  · rw [gx_u_ne (by omega)]
theorem rs182 (hS : rS T L m0 p K W o m) (h : Q (some (.inl (wtop W))) m) : hxn xs n yp_m182 0 [(0, .inr (.inl 86))] [] m Q := by
  have hw := rs_wl hS
  have e := rs_W hS
  refine hx_dn (hr182_0 (fun c => ?_) (fun c => ?_))
  · rcases lw_cases W with rfl | ⟨V, q, rfl⟩
    · exact absurd e c
    · rw [List.length_append, List.length_singleton] at e hw
      obtain ⟨e2, b1, b2, b3, b4⟩ := hS.2.2.1.2 V.length q lk_last
      have ei : (gx_w (m 86 11 - 1)).toNat = V.length := by
        rw [e, gx_w_id (by omega) (by omega)]
        omega
      rw [wtop_app] at h
      rw [ei, e2]
      have ed : Int.tdiv (1048576 * q.1 + q.2) 1048576 = q.1 := by
        rw [Int.tdiv_eq_ediv_of_nonneg (by omega)]
        omega
      rw [ed, gx_w_id (by omega) (by omega)]
      exact h
  · rcases lw_cases W with rfl | ⟨V, q, rfl⟩
    · rw [wtop_nil] at h
      exact h
    · rw [List.length_append, List.length_singleton] at e
      exact absurd c (by omega)
theorem rs175 {a : Int} (hS : rS T L m0 p K W o m) (ha : 0 ≤ a ∧ a ≤ 14) (hp : p < L) (hw : W.length < 240) (h1 : o < 6 → ∀ m', rS T L m0 (p + 1) K (W ++ [(a, 0)]) (o + 1) m' → Q (some (.inl 1)) m') (h0 : o = 6 → ∀ m', rF m0 (lfl 5 p) m' → Q (some (.inl 0)) m') : hxn xs n yp_m175 0 [(0, .inr (.inl 86)), (1, .inl a)] [] m Q := by
  have ho := rs_o hS
  have hol := rs_ol hS
  refine hx_dn (hr175_0 (fun c => ?_) (fun c => ?_))
  · have ho6 : o < 6 := by omega
    rw [gx_w_id (x := 1048576 * a) (by omega) (by omega)]
    have s1 := rs_op hS (o' := o + 1) (v := gx_w (m 86 9 + 1)) (by rw [ho, gx_w_id (by omega) (by omega)]; omega) (by omega)
    have s2 := rs_pu s1 ha (v := 0) (by omega) hw
    have s3 := rs_st s2 hp
    have e1 : gx_u m 86 9 (gx_w (m 86 9 + 1)) 86 11 = m 86 11 := gx_u_ne (by omega)
    rw [e1, Int.add_zero] at s3
    have e2 : gx_u (gx_u (gx_u m 86 9 (gx_w (m 86 9 + 1))) 92 (m 86 11).toNat (1048576 * a)) 86 11 (gx_w (m 86 11 + 1)) 86 5 = m 86 5 := by
      rw [gx_u_ne (by omega), gx_u_ne (by omega), gx_u_ne (by omega)]
    rw [e2] at s3
    exact h1 ho6 _ s3
  · rw [rs_pl hS]
    exact rs172 hS (by decide) (fun m' hf => hx_dn (hr175_18 (h0 (by omega) m' hf)))
theorem rs188 {a : Int} {c : Int × Int} (hS : rS T L m0 p K W o m) (hc : lenc c = 1048576 * a + 0) (ha : 0 ≤ a ∧ a ≤ 14) (hp : p < L) (hk : K.length < 240) (hw : W.length < 240) (h : ∀ m', rS T L m0 (p + 1) (K ++ [c]) (W ++ [(a, (K.length : Int))]) o m' → Q none m') : hxn xs n yp_m188 0 [(0, .inr (.inl 86)), (1, .inl a)] [] m Q := by
  refine hx_dn (hr188_0 ?_)
  have s1 := rs_pu hS ha (v := (K.length : Int)) (by omega) hw
  rw [gx_w_id (x := 1048576 * a) (by omega) (by omega), rs_K hS, gx_w_id (x := 1048576 * a + (K.length : Int)) (by omega) (by omega)]
  refine rs178 s1 hc ha (by omega) hk (fun m2 s2 => ?_)
  show hxn xs n yp_m188 34 [(0, .inr (.inl 86))] [] m2 Q
  exact hx_dn (hr188_34 (h _ (rs_st s2 hp)))
/-! signs that wait are written -/
theorem rs181_p {a s : Int} (hS : rS T L m0 p K (W ++ [(lop s, 0)]) o m) (hs : isPr s ∨ (a ≠ 0 ∧ isSm s)) (hk : K.length < 240) (h : ∀ m', rS T L m0 p (K ++ [(s, 0)]) W o m' → hxn xs n yp_m181 0 [(0, .inr (.inl 86)), (1, .inl a)] [] m' Q) : hxn xs n yp_m181 0 [(0, .inr (.inl 86)), (1, .inl a)] [] m Q := by
  have hb := lop_bd s
  have hen : lenc (s, 0) = 1048576 * lop s + 0 := by
    unfold lenc larg
    rcases hs with hs | ⟨-, hs⟩
    · unfold isPr at hs
      rw [if_neg (by dsimp only; omega)]
    · unfold isSm at hs
      rw [if_neg (by dsimp only; omega)]
  have fin : hxn xs n yp_m182 0 [(0, .inr (.inl 86))] [] m (fun r m' => hxn xs n yp_m181 42 [(0, .inr (.inl 86)), (1, .inl a)] (hrs r ++ [.inr (.inl 86)]) m' Q) := by
    refine rs182 hS ?_
    rw [wtop_app]
    show hxn xs n yp_m181 42 [(0, .inr (.inl 86)), (1, .inl a)] [.inl (lop s), .inr (.inl 86)] m Q
    refine hx_dn (hr181_42 ?_)
    refine rs178 hS hen (by omega) (by omega) hk (fun m2 s2 => ?_)
    show hxn xs n yp_m181 46 [(0, .inr (.inl 86)), (1, .inl a)] [] m2 Q
    exact hx_dn (hr181_46 (h _ (rs_po s2)))
  refine hx_dn (hr181_0 (rs182 hS ?_))
  rw [wtop_app]
  show hxn xs n yp_m181 4 [(0, .inr (.inl 86)), (1, .inl a)] [.inl (lop s)] m Q
  have cas : (isPr s ∧ 4 ≤ lop s ∧ lop s ≤ 6) ∨ (a ≠ 0 ∧ isSm s ∧ (lop s = 2 ∨ lop s = 3)) := by
    rcases hs with hs | ⟨h1, hs⟩
    · refine .inl ⟨hs, ?_⟩
      unfold isPr at hs
      rcases hs with rfl | rfl | rfl <;> decide
    · refine .inr ⟨h1, hs, ?_⟩
      unfold isSm at hs
      rcases hs with rfl | rfl <;> decide
  rcases cas with ⟨-, c1, c2⟩ | ⟨c1, -, c2⟩
  · refine hx_dn (hr181_4 (fun c => absurd c (by omega)) (fun c => absurd c (by omega)) (fun _ => rs182 hS ?_))
    rw [wtop_app]
    show hxn xs n yp_m181 12 [(0, .inr (.inl 86)), (1, .inl a)] [.inl (lop s)] m Q
    exact hx_dn (hr181_12 (fun _ => fin) (fun c => absurd c (by omega)) (fun c => absurd c (by omega)))
  · refine hx_dn (hr181_4 (fun _ c => absurd c c1) (fun _ _ => rs182 hS ?_) (fun c => absurd c (by omega)))
    rw [wtop_app]
    show hxn xs n yp_m181 25 [(0, .inr (.inl 86)), (1, .inl a)] [.inl (lop s)] m Q
    refine hx_dn (hr181_25 (fun _ => fin) (fun c => rs182 hS ?_))
    rw [wtop_app]
    show hxn xs n yp_m181 33 [(0, .inr (.inl 86)), (1, .inl a)] [.inl (lop s)] m Q
    exact hx_dn (hr181_33 (fun c' => absurd c' (by omega)) (fun _ => fin))
theorem rs181_s {a : Int} (hS : rS T L m0 p K W o m) (h1 : ¬ (4 ≤ wtop W ∧ wtop W ≤ 6)) (h2 : a ≠ 0 → wtop W ≠ 2 ∧ wtop W ≠ 3) (h : Q none m) : hxn xs n yp_m181 0 [(0, .inr (.inl 86)), (1, .inl a)] [] m Q := by
  refine hx_dn (hr181_0 (rs182 hS ?_))
  show hxn xs n yp_m181 4 [(0, .inr (.inl 86)), (1, .inl a)] [.inl (wtop W)] m Q
  have low : a ≠ 0 → hxn xs n yp_m182 0 [(0, .inr (.inl 86))] [] m (fun r m' => hxn xs n yp_m181 25 [(0, .inr (.inl 86)), (1, .inl a)] (hrs r ++ []) m' Q) := fun c => by
    refine rs182 hS ?_
    show hxn xs n yp_m181 25 [(0, .inr (.inl 86)), (1, .inl a)] [.inl (wtop W)] m Q
    refine hx_dn (hr181_25 (fun e => absurd e (h2 c).1) (fun _ => rs182 hS ?_))
    show hxn xs n yp_m181 33 [(0, .inr (.inl 86)), (1, .inl a)] [.inl (wtop W)] m Q
    exact hx_dn (hr181_33 (fun _ => h) (fun e => absurd e (h2 c).2))
  refine hx_dn (hr181_4 (fun _ _ => h) (fun _ c => low c) (fun c => rs182 hS ?_))
  show hxn xs n yp_m181 12 [(0, .inr (.inl 86)), (1, .inl a)] [.inl (wtop W)] m Q
  exact hx_dn (hr181_12 (fun c' => absurd ⟨c, c'⟩ h1) (fun _ _ => h) (fun _ c' => low c'))
/-- pieces that wait for their end -/
theorem rs186 : ∀ (j : Nat) {K : hCode} {o : Nat} {m : gx_M}, rS T L m0 p K (W ++ List.replicate j (10, 0)) (o + j) m → wtop W ≠ 10 → K.length + j ≤ 240 → (∀ m', rS T L m0 p (K ++ List.replicate j (33, 0)) W o m' → Q none m') → hxn xs n yp_m186 0 [(0, .inr (.inl 86))] [] m Q
  | 0, K, o, m, hS, hw, hk, h => by
    rw [List.replicate_zero, List.append_nil] at hS h
    refine hx_dn (hr186_0 (rs182 hS ?_))
    show hxn xs n yp_m186 4 [(0, .inr (.inl 86))] [.inl (wtop W)] m Q
    exact hx_dn (hr186_4 (fun _ => h m hS) (fun c => absurd c hw))
  | j + 1, K, o, m, hS, hw, hk, h => by
    have eW : W ++ List.replicate (j + 1) (10, 0) = (W ++ List.replicate j (10, 0)) ++ [((10 : Int), (0 : Int))] := by
      rw [List.replicate_succ', List.append_assoc]
    rw [eW] at hS
    refine hx_dn (hr186_0 (rs182 hS ?_))
    rw [wtop_app]
    show hxn xs n yp_m186 4 [(0, .inr (.inl 86))] [.inl 10] m Q
    refine hx_dn (hr186_4 (fun c => absurd rfl c) (fun _ => ?_))
    refine rs178 hS (c := (33, 0)) (by decide) (by decide) (by decide) (by omega) (fun m2 s2 => ?_)
    show hxn xs n yp_m186 16 [(0, .inr (.inl 86))] [] m2 Q
    refine hx_dn (hr186_16 ?_)
    have s3 := rs_po s2
    have hol := rs_ol hS
    have s4 := rs_op s3 (o' := o + j) (v := gx_w (m2 86 9 - 1)) (by rw [rs_o s2, gx_w_id (by omega) (by omega)]; omega) (by omega)
    refine rs186 j s4 hw (by rw [List.length_append, List.length_singleton]; omega) (fun m5 s5 => h m5 ?_)
    have eK : K ++ [((33 : Int), (0 : Int))] ++ List.replicate j (33, 0) = K ++ List.replicate (j + 1) (33, 0) := by
      rw [List.append_assoc, List.replicate_succ]
      rfl
    rw [eK] at s5
    exact s5
end RT
