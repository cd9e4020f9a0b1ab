/-! inOrder -/
def bk_152b : bx_K := (201, 0, [(0, (2, 86, 0)), (1, (0, 0, 39)), (2, (0, 0, 7)), (3, (0, (-2147483648), 2147483647))], [], [(some (some (0, 0, 1)), 0, [], [])], [(102, 0, 260), (103, 0, 14)], [4], 4, none)
def bk_211b : bx_K := (195, 0, [(0, (2, 86, 0)), (1, (0, 0, 15))], [], [(some (some (0, 0, 1)), 0, [], [])], [(87, 0, 1131), (102, 0, 260), (103, 0, 14)], [2, 3, 4, 5], 5, none)
theorem bc_211b : bx_chk yp_P [bk_99, bk_152b, bk_199, bk_219, bk_220] 1500 bw_INV bw_PC yp_m195 bk_211b = true := by decide +kernel
def lo_d (n : Nat) (r : Nat → Int) : Prop := ∀ i j, i < n → j < n → r i = r j → i = j
def lo_sw (r : Nat → Int) (a b : Nat) : Nat → Int := lf_up (lf_up r a (r b)) b (r a)
theorem lo_sw_at (r : Nat → Int) (a b i : Nat) : lo_sw r a b i = r (if i = b then a else if i = a then b else i) := by
  unfold lo_sw lf_up
  split
  · rfl
  · split <;> rfl
theorem lo_d_sw {n a b : Nat} {r : Nat → Int} (ha : a < n) (hb : b < n) (h : lo_d n r) : lo_d n (lo_sw r a b) := by
  intro i j hi hj e
  rw [lo_sw_at, lo_sw_at] at e
  have h1 := h _ _ (by split; exact ha; split; exact hb; exact hi) (by split; exact ha; split; exact hb; exact hj) e
  split at h1 <;> split at h1 <;> (try split at h1) <;> (try split at h1) <;> omega
def lo_e : Nat → (Nat → Int) → Int
  | 0, _ => 0
  | k + 1, r => 6 * lo_e k r + r k
def lo_p : Nat → Int
  | 0 => 1
  | k + 1 => 6 * lo_p k
theorem lo_e_eq {r r' : Nat → Int} : ∀ k : Nat, (∀ i, i < k → r' i = r i) → lo_e k r' = lo_e k r
  | 0, _ => rfl
  | k + 1, h => by
    unfold lo_e
    rw [lo_e_eq k (fun i hi => h i (by omega)), h k (by omega)]
theorem lo_e_lt {r r' : Nat → Int} {k : Nat} (hp : ∀ i, i < k → r' i = r i) (hk : r k < r' k) : ∀ j : Nat, (∀ i, i < k + 1 + j → (0 ≤ r i ∧ r i ≤ 5) ∧ (0 ≤ r' i ∧ r' i ≤ 5)) → lo_e (k + 1 + j) r < lo_e (k + 1 + j) r'
  | 0, hb => by
    show 6 * lo_e k r + r k < 6 * lo_e k r' + r' k
    rw [lo_e_eq k hp]
    omega
  | j + 1, hb => by
    have h1 := lo_e_lt hp hk j (fun i hi => hb i (by omega))
    have h2 := hb (k + 1 + j) (by omega)
    show 6 * lo_e (k + 1 + j) r + r (k + 1 + j) < 6 * lo_e (k + 1 + j) r' + r' (k + 1 + j)
    omega
theorem lo_e_bd {r : Nat → Int} : ∀ n : Nat, (∀ i, i < n → 0 ≤ r i ∧ r i ≤ 5) → 0 ≤ lo_e n r ∧ lo_e n r + 1 ≤ lo_p n
  | 0, _ => ⟨Int.le_refl _, Int.le_refl _⟩
  | n + 1, h => by
    have h1 := lo_e_bd n (fun i hi => h i (by omega))
    have h2 := h n (by omega)
    unfold lo_e lo_p
    omega
theorem lo_p6 : ∀ n : Nat, n < 7 → lo_p n ≤ 46656 := by decide
section GOR
variable {xs : List Int32} {w0 : sx_W} {d : Nat} {Q : gx_Q} {m : gx_M}
theorem bq_211b (h : bw_H1 xs (gx_XW gx_X)) (hB : bx_Kok yp_P xs bw_INV (gx_XW gx_X) bk_152b) : bx_Kok yp_P xs bw_INV (gx_XW gx_X) bk_211b := bx_chk_K h.1 h.2 (List.forall_mem_cons.mpr ⟨bx_chk_K h.1 h.2 bx_Tnil (M := yp_m165) rfl bc_99, (List.forall_mem_cons.mpr ⟨hB, (List.forall_mem_cons.mpr ⟨bx_chk_K h.1 h.2 bx_Tnil (M := yp_m199) rfl bc_199, (List.forall_mem_cons.mpr ⟨bx_chk_K h.1 h.2 (List.forall_mem_cons.mpr ⟨bx_chk_K h.1 h.2 bx_Tnil (M := yp_m199) rfl bc_199, bx_Tnil⟩) (M := yp_m197) rfl bc_219, (List.forall_mem_cons.mpr ⟨bx_chk_K h.1 h.2 bx_Tnil (M := yp_m210) rfl bc_220, bx_Tnil⟩)⟩)⟩)⟩)⟩) (M := yp_m195) rfl bc_211b
theorem gk_isBarredb (h : bw_H1 xs (gx_XW gx_X)) : bx_Kok yp_P xs bw_INV (gx_XW gx_X) bk_152b := by
  refine gx_K_of (by decide) rfl (fun M w0 v m hM hv hI hX _ => ?_)
  cases (Option.some.inj (hM.symm.trans rfl) : M = yp_m201)
  match v, hv with
  | x1 :: x2 :: x3 :: r, hv =>
    have h1 : 0 ≤ x1 ∧ x1 ≤ 39 := hv.1.2
    have h2 : 0 ≤ x2 ∧ x2 ≤ 7 := hv.2.1.2
    exact gc_isBarred (d := 0) h hI hX h1 (by omega) hv.2.2.1.2 (fun v m' hv hI' hX' hf _ => ⟨⟨rfl, by show 0 ≤ v; omega, by show v ≤ 1; omega⟩, hI', hX', hf⟩)
def gx_do : bx_M := [(87, 0, 1131), (102, 0, 260), (103, 0, 14)]
theorem gc_does (h : bw_H1 xs (gx_XW gx_X)) (hI : gx_I m) (hX : gx_X m) {a : Int} (ha : 0 ≤ a ∧ a ≤ 15) (hQ : ∀ v m', 0 ≤ v ∧ v ≤ 1 → gx_I m' → gx_X m' → gx_fw gx_do m m' → Q (some v) m') : gx_to xs w0 (d + 5) yp_m195 0 [(0, .inr 86), (1, .inl a)] [] m Q :=
  gx_K (bq_211b h (gk_isBarredb h)) rfl (by omega) (by decide +kernel) rfl ⟨⟨rfl, rfl⟩, ⟨rfl, ha⟩, trivial⟩ hI hX (fun r m' he hI' hX' hf => by
    obtain ⟨x, rfl, x1, x2⟩ := gx_end_i he
    exact hQ x m' ⟨x1, x2⟩ hI' hX' hf)
theorem gc_back (h : bw_H1 xs (gx_XW gx_X)) (hI : gx_I m) (hX : gx_X m) (hQ : ∀ m', gx_I m' → gx_X m' → gx_fw gx_do m m' → Q none m') : gx_to xs w0 d yp_m212 0 [(0, .inr 88), (1, .inr 87)] [] m Q :=
  gx_K (bp_411 h) rfl (Nat.zero_le _) (by decide +kernel) rfl ⟨⟨rfl, rfl⟩, ⟨rfl, rfl⟩, trivial⟩ hI hX (fun r m' he hI' hX' hf => by
    rw [gx_end_0 he]
    exact hQ m' hI' hX' (hf.sub (fun q hq => ⟨q, by rw [List.mem_singleton] at hq; subst hq; exact List.mem_cons_self, rfl, Nat.le_refl _, Nat.le_refl _⟩)))
theorem gx_do_row {m m' : gx_M} (h : gx_fw gx_do m m') {c : Nat} (h1 : c ≠ 87) (h2 : c ≠ 102) (h3 : c ≠ 103) : m' c = m c := h.row (fun q hq e => by
  simp only [gx_do, List.mem_cons, List.not_mem_nil, or_false] at hq
  rcases hq with rfl | rfl | rfl
  · exact h1 e.symm
  · exact h2 e.symm
  · exact h3 e.symm)
def go_ar (m0 : gx_M) (n : Nat) (m : gx_M) : Prop := gx_I m ∧ gx_X m ∧ gx_fw gx_do m0 m ∧ m 86 32 = n
theorem gl_done (h : bw_H1 xs (gx_XW gx_X)) {m0 : gx_M} {n : Nat} (hn : n ≤ 6) (hQ : ∀ v m', 0 ≤ v ∧ v ≤ 1 → go_ar m0 n m' → Q (some v) m') : ∀ (j : Nat) (k v : Int) (m : gx_M), n - k = j → 0 ≤ k → 0 ≤ v ∧ v ≤ 1 → go_ar m0 n m → gx_to xs w0 (d + 6) yp_m214 4 [(0, .inr 86), (1, .inl v), (2, .inl k)] [] m Q := by
  intro j
  have hend : ∀ (v : Int) (m : gx_M), 0 ≤ v ∧ v ≤ 1 → go_ar m0 n m → gx_to xs w0 (d + 5) yp_m212 0 [(0, .inr 88), (1, .inr 87)] [] m (fun r m' => gx_to xs w0 (d + 6) yp_m214 44 [(1, .inl v)] (gx_rs r ++ []) m' Q) := fun v m hv hs => gc_back h hs.1 hs.2.1 (fun m' g1 g2 g3 => by
    have e : m' 86 32 = n := by rw [gx_do_row g3 (by decide) (by decide) (by decide)]; exact hs.2.2.2
    exact gt214_44 hv (by omega) (hQ v m' hv ⟨g1, g2, hs.2.2.1.tr g3, e⟩))
  induction j with
  | zero =>
    intro k v m hj h0 hv hs
    have e := hs.2.2.2
    exact gt214_4 hs.1 hv (by omega) (by omega) (fun _ => hend v m hv hs) (fun _ _ => hend v m hv hs) (fun c => by omega)
  | succ j ih =>
    intro k v m hj h0 hv hs
    have e := hs.2.2.2
    refine gt214_4 hs.1 hv (by omega) (by omega) (fun _ => hend v m hv hs) (fun _ _ => hend v m hv hs) (fun c _ => ?_)
    have hr := gx_I_at hs.1 109 (z := k) 0 5 0 5 (by decide +kernel) (by omega) (by omega)
    refine gc_does h hs.1 hs.2.1 (by omega) (fun v' m' g0 g1 g2 g3 => ?_)
    have e' : m' 86 32 = n := by rw [gx_do_row g3 (by decide) (by decide) (by decide)]; exact e
    exact gt214_26 (by omega) (by omega) (ih (k + 1) v' m' (by omega) (by omega) g0 ⟨g1, g2, hs.2.2.1.tr g3, e'⟩)
theorem gc_done (h : bw_H1 xs (gx_XW gx_X)) {n : Nat} (hn : n ≤ 6) (hI : gx_I m) (hX : gx_X m) (h32 : m 86 32 = n) (hQ : ∀ v m', 0 ≤ v ∧ v ≤ 1 → go_ar m n m' → Q (some v) m') : gx_to xs w0 (d + 6) yp_m214 0 [(0, .inr 86)] [] m Q :=
  gt214_0 (by omega) (gl_done h hn hQ n 0 1 m (by omega) (by omega) (by omega) ⟨hI, hX, gx_fw.rf, h32⟩)
/-! the next row -/
def gx_rw : bx_M := [(109, 0, 6)]
def go_st (m0 : gx_M) (n : Nat) (m : gx_M) : Prop := gx_I m ∧ gx_fw gx_rw m0 m ∧ m 86 32 = n ∧ lo_d n (m 109)
theorem go_bd (hI : gx_I m) {i : Nat} (hi : i < 6) : 0 ≤ m 109 i ∧ m 109 i ≤ 5 := by
  have := gx_I_at hI 109 (z := (i : Int)) 0 5 0 5 (by decide +kernel) (by omega) (by omega)
  rwa [Int.toNat_natCast] at this
theorem go_sw {m0 m : gx_M} {n a b : Nat} (hn : n ≤ 6) (hs : go_st m0 n m) (ha : a < n) (hb : b < n) : go_st m0 n (gx_u (gx_u m 109 a (m 109 b)) 109 b (m 109 a)) ∧ (gx_u (gx_u m 109 a (m 109 b)) 109 b (m 109 a)) 109 = lo_sw (m 109) a b := by
  have e : (gx_u (gx_u m 109 a (m 109 b)) 109 b (m 109 a)) 109 = lo_sw (m 109) a b := by rw [gx_u_row, gx_u_row]; rfl
  have ba := go_bd hs.1 (i := a) (by omega)
  have bb := go_bd hs.1 (i := b) (by omega)
  have w1 := gx_I_w hs.1 109 (z := (a : Int)) (v := m 109 b) 0 5 0 5 (by decide +kernel) (by omega) (by omega) bb.1 bb.2
  have w2 := gx_I_w w1 109 (z := (b : Int)) (v := m 109 a) 0 5 0 5 (by decide +kernel) (by omega) (by omega) ba.1 ba.2
  rw [Int.toNat_natCast, Int.toNat_natCast] at w2
  refine ⟨⟨w2, (hs.2.1.w ⟨_, List.mem_singleton.mpr rfl, rfl, Nat.zero_le _, by show a < 6; omega⟩).w ⟨_, List.mem_singleton.mpr rfl, rfl, Nat.zero_le _, by show b < 6; omega⟩, ?_, ?_⟩, e⟩
  · rw [gx_u_off (by decide : (86 : Nat) ≠ 109), gx_u_off (by decide : (86 : Nat) ≠ 109)]
    exact hs.2.2.1
  · rw [e]
    exact lo_d_sw ha hb hs.2.2.2
theorem gc_sw {a b : Nat} (hI : gx_I m) (ha : a < 6) (hb : b < 6) (h : Q none (gx_u (gx_u m 109 a (m 109 b)) 109 b (m 109 a))) : gx_to xs w0 d yp_m216 0 [(0, .inr 86), (1, .inl (a : Int)), (2, .inl (b : Int))] [] m Q :=
  gt216_0 hI (by omega) (by omega) (by rw [Int.toNat_natCast, Int.toNat_natCast]; exact h)
theorem gl_n88 {m0 : gx_M} {n k : Nat} (hn : n ≤ 6) {r : Nat → Int} (hQ : ∀ m', go_st m0 n m' → (∀ i, i ≤ k → m' 109 i = r i) → Q (some 1) m') : ∀ (j a b : Nat) (m : gx_M), b - a ≤ j → k < a → a ≤ n → b < n → go_st m0 n m → (∀ i, i ≤ k → m 109 i = r i) → gx_to xs w0 (d + 1) yp_m215 88 [(0, .inr 86), (3, .inl (a : Int)), (4, .inl (b : Int))] [] m Q := by
  intro j
  induction j with
  | zero =>
    intro a b m hj ha han hb hs hr
    have e := hs.2.2.1
    exact gt215_88 (by omega) (by omega) (by omega) (fun _ => hQ m hs hr) (fun c => by omega)
  | succ j ih =>
    intro a b m hj ha han hb hs hr
    have e := hs.2.2.1
    refine gt215_88 (by omega) (by omega) (by omega) (fun _ => hQ m hs hr) (fun c => gc_sw hs.1 (by omega) (by omega) ?_)
    obtain ⟨g1, g2⟩ := go_sw hn hs (by omega : a < n) hb
    have e' := g1.2.2.1
    refine gt215_101 (by omega) (by omega) (by omega) ?_
    have := ih (a + 1) (b - 1) _ (by omega) (by omega) (by omega) (by omega) g1 (fun i hi => by rw [g2, lo_sw_at, if_neg (by omega), if_neg (by omega)]; exact hr i hi)
    rw [show ((a + 1 : Nat) : Int) = (a : Int) + 1 by omega, show ((b - 1 : Nat) : Int) = (b : Int) - 1 by omega] at this
    exact this
theorem gl_n48 {n k : Nat} (hn : n ≤ 6) (hI : gx_I m) (h32 : m 86 32 = n) (hd : lo_d n (m 109)) (hkn : k + 1 < n) (hlt : m 109 k < m 109 (k + 1)) (hQ : ∀ m', go_st m n m' → lo_e n (m 109) < lo_e n (m' 109) → Q (some 1) m') : ∀ (j q : Nat), q - (k + 1) = j → k + 1 ≤ q → q < n → gx_to xs w0 (d + 1) yp_m215 48 [(0, .inr 86), (1, .inl (k : Int)), (2, .inl (q : Int))] [] m Q := by
  intro j
  have hgo : ∀ q : Nat, k + 1 ≤ q → q < n → m 109 k ≤ m 109 q → gx_to xs w0 d yp_m216 0 [(0, .inr 86), (1, .inl (k : Int)), (2, .inl (q : Int))] [] m (fun r m' => gx_to xs w0 (d + 1) yp_m215 76 [(0, .inr 86), (1, .inl (k : Int))] (gx_rs r ++ []) m' Q) := fun q h1 h2 h3 => by
    have hst : go_st m n m := ⟨hI, gx_fw.rf, h32, hd⟩
    obtain ⟨g1, g2⟩ := go_sw hn hst (by omega : k < n) h2
    have e' := g1.2.2.1
    have hne : m 109 k ≠ m 109 q := fun e => by have := hd k q (by omega) h2 e; omega
    refine gc_sw hI (by omega) (by omega) (gt215_76 g1.1 (by omega) (by omega) ?_)
    rw [e']
    have := gl_n88 (xs := xs) (w0 := w0) (d := d) (m0 := m) (k := k) hn (r := lo_sw (m 109) k q) (Q := Q) (fun m' s1 s2 => hQ m' s1 (by
      have := lo_e_lt (r := m 109) (r' := m' 109) (k := k) (fun i hi => by rw [s2 i (by omega), lo_sw_at, if_neg (by omega), if_neg (by omega)]) (by rw [s2 k (Nat.le_refl _), lo_sw_at, if_neg (by omega), if_pos rfl]; omega) (n - (k + 1)) (fun i hi => ⟨go_bd hI (by omega), go_bd s1.1 (by omega)⟩)
      rwa [show k + 1 + (n - (k + 1)) = n by omega] at this)) n (k + 1) (n - 1) _ (by omega) (by omega) (by omega) (by omega) g1 (fun i hi => by rw [g2])
    rw [show ((k + 1 : Nat) : Int) = (k : Int) + 1 by omega, show ((n - 1 : Nat) : Int) = (n : Int) - 1 by omega] at this
    exact this
  induction j with
  | zero =>
    intro q hj h1 h2
    have e : q = k + 1 := by omega
    refine gt215_48 hI (by omega) (by omega) (by omega) (fun c => ?_) (fun c => ?_)
    · rw [Int.toNat_natCast, Int.toNat_natCast] at c
      exact hgo q h1 h2 c
    · rw [Int.toNat_natCast, Int.toNat_natCast, e] at c
      omega
  | succ j ih =>
    intro q hj h1 h2
    refine gt215_48 hI (by omega) (by omega) (by omega) (fun c => ?_) (fun c => ?_)
    · rw [Int.toNat_natCast, Int.toNat_natCast] at c
      exact hgo q h1 h2 c
    · have := ih (q - 1) (by omega) (by omega) (by omega)
      rw [show ((q - 1 : Nat) : Int) = (q : Int) - 1 by omega] at this
      exact this
theorem gl_n7 {n : Nat} (hn : n ≤ 6) (hI : gx_I m) (h32 : m 86 32 = n) (hd : lo_d n (m 109)) (hQ0 : Q (some 0) m) (hQ : ∀ m', go_st m n m' → lo_e n (m 109) < lo_e n (m' 109) → Q (some 1) m') : ∀ (j : Nat) (k : Int), k + 1 ≤ j → -2 ≤ k → k + 2 ≤ n → gx_to xs w0 (d + 1) yp_m215 7 [(0, .inr 86), (1, .inl k)] [] m Q := by
  intro j
  induction j with
  | zero => exact fun k hj h0 h1 => gt215_7 hI (by omega) (by omega) (fun _ _ => hQ0) (fun c => by omega) (fun c => by omega)
  | succ j ih =>
    intro k hj h0 h1
    refine gt215_7 hI (by omega) (by omega) (fun _ _ => hQ0) (fun c c' _ => ?_) (fun c _ => ih (k - 1) (by omega) (by omega) (by omega))
    obtain ⟨k0, rfl⟩ : ∃ i : Nat, k = (i : Int) := ⟨k.toNat, by omega⟩
    rw [Int.toNat_natCast, show ((k0 : Int) + 1).toNat = k0 + 1 by omega] at c'
    have hne : m 109 k0 ≠ m 109 (k0 + 1) := fun e => by have := hd k0 (k0 + 1) (by omega) (by omega) e; omega
    have := gl_n48 (xs := xs) (w0 := w0) (d := d) hn hI h32 hd (by omega) (by omega) hQ (n - 1 - (k0 + 1)) (n - 1) rfl (by omega) (by omega)
    rw [h32, show (n : Int) - 1 = ((n - 1 : Nat) : Int) by omega]
    exact this
theorem gc_next {n : Nat} (hn : n ≤ 6) (hI : gx_I m) (h32 : m 86 32 = n) (hd : lo_d n (m 109)) (hQ0 : Q (some 0) m) (hQ : ∀ m', go_st m n m' → lo_e n (m 109) < lo_e n (m' 109) → Q (some 1) m') : gx_to xs w0 (d + 1) yp_m215 0 [(0, .inr 86)] [] m Q :=
  gt215_0 hI (by omega) (by rw [h32]; exact gl_n7 hn hI h32 hd hQ0 hQ n _ (by omega) (by omega) (by omega))
def gx_od : bx_M := [(86, 4, 5), (86, 5, 6), (86, 6, 7), (86, 7, 8), (86, 8, 9), (86, 32, 33), (87, 0, 1131), (88, 0, 1131), (102, 0, 260), (103, 0, 14), (104, 0, 16), (105, 0, 16), (106, 0, 16), (107, 0, 16), (108, 0, 16), (109, 0, 6)]
def go_od (m0 : gx_M) (n : Nat) (m : gx_M) : Prop := gx_I m ∧ gx_X m ∧ gx_fw gx_od m0 m ∧ m 86 32 = n ∧ lo_d n (m 109)
theorem gl_o99 (h : bw_H1 xs (gx_XW gx_X)) {m0 : gx_M} {n : Nat} (hn : n ≤ 6) {what : Int} (hw : -1 ≤ what ∧ what ≤ 5) (hQ : ∀ v m', gx_I m' → gx_X m' → gx_fw gx_od m0 m' → Q (some v) m') : ∀ (c : Nat) (v : Int) (m : gx_M), (46656 - lo_e n (m 109)).toNat ≤ c → 0 ≤ v ∧ v ≤ 1 → go_od m0 n m → gx_to xs w0 (d + 7) yp_m213 99 [(0, .inr 86), (2, .inl what), (3, .inl v)] [] m Q := by
  intro c
  induction c using Nat.strongRecOn with
  | _ c ih =>
    intro v m hc hv hs
    have hno : ∀ v, Q (some v) m := fun v => hQ v m hs.1 hs.2.1 hs.2.2.1
    refine gt213_99 hs.1 hw hv (fun _ _ _ => hno _) (fun _ _ _ => hno _) (fun _ => gc_next (d := d + 5) hn hs.1 hs.2.2.2.1 hs.2.2.2.2
      (gt213_107 hs.1 hw hv (fun _ _ _ => hno _) (fun _ _ _ => hno _) (fun _ _ _ => hno _) (fun _ _ _ => hno _) (fun e => absurd rfl e)) (fun m1 g1 g2 => ?_))
    have hf1 : gx_fw gx_od m m1 := g1.2.1.sub (fun q hq => ⟨q, by rw [gx_rw, List.mem_singleton] at hq; subst hq; simp [gx_od], rfl, Nat.le_refl _, Nat.le_refl _⟩)
    have hX1 := gx_X_c.fw g1.2.1 (by decide) hs.2.1
    have hno1 : ∀ v, Q (some v) m1 := fun v => hQ v m1 g1.1 hX1 (hs.2.2.1.tr hf1)
    refine gt213_107 g1.1 hw hv (fun _ _ _ => hno1 _) (fun _ _ _ => hno1 _) (fun _ _ _ => hno1 _) (fun _ _ _ => hno1 _) (fun _ => gc_done h hn g1.1 hX1 g1.2.2.1 (fun v2 m2 v2b s => gt213_114 ?_))
    have e109 := gx_do_row s.2.2.1 (by decide : (109 : Nat) ≠ 87) (by decide) (by decide)
    have b1 := lo_e_bd n (r := m 109) (fun i hi => go_bd hs.1 (by omega))
    have b2 := lo_e_bd n (r := m1 109) (fun i hi => go_bd g1.1 (by omega))
    have p6 := lo_p6 n (by omega)
    refine ih (46656 - lo_e n (m2 109)).toNat ?_ v2 m2 (Nat.le_refl _) v2b ⟨s.1, s.2.1, (hs.2.2.1.tr hf1).tr (s.2.2.1.sub (fun q hq => ⟨q, ?_, rfl, Nat.le_refl _, Nat.le_refl _⟩)), s.2.2.2, by rw [e109]; exact g1.2.2.2⟩
    · rw [e109]
      omega
    · simp only [gx_do, List.mem_cons, List.not_mem_nil, or_false] at hq
      rcases hq with rfl | rfl | rfl <;> simp [gx_od]
theorem gl_o73 (h : bw_H1 xs (gx_XW gx_X)) {m0 : gx_M} {n : Nat} (hn : n ≤ 6) {what : Int} (hw : -1 ≤ what ∧ what ≤ 5) (hQ : ∀ v m', gx_I m' → gx_X m' → gx_fw gx_od m0 m' → Q (some v) m') : ∀ (j k : Nat) (m : gx_M), n - k = j → k ≤ n → gx_I m → gx_X m → gx_fw gx_od m0 m → m 86 32 = n → (∀ i : Nat, i < k → m 109 i = i) → gx_to xs w0 (d + 7) yp_m213 73 [(0, .inr 86), (2, .inl what), (3, .inl (k : Int))] [] m Q := by
  intro j
  induction j with
  | zero =>
    intro k m hj hk hI hX hf h32 hr
    refine gt213_73 hI (by omega) (fun _ => gc_done h hn hI hX h32 (fun v m' hv s => gt213_98 ?_)) (fun c => by omega) (fun c => by omega)
    have e109 := gx_do_row s.2.2.1 (by decide : (109 : Nat) ≠ 87) (by decide) (by decide)
    refine gl_o99 h hn hw hQ _ v m' (Nat.le_refl _) hv ⟨s.1, s.2.1, hf.tr (s.2.2.1.sub (fun q hq => ⟨q, ?_, rfl, Nat.le_refl _, Nat.le_refl _⟩)), s.2.2.2, fun a b ha hb e => ?_⟩
    · simp only [gx_do, List.mem_cons, List.not_mem_nil, or_false] at hq
      rcases hq with rfl | rfl | rfl <;> simp [gx_od]
    · rw [e109, hr a (by omega), hr b (by omega)] at e
      omega
  | succ j ih =>
    intro k m hj hk hI hX hf h32 hr
    refine gt213_73 hI (by omega) (fun c => by omega) (fun c => by omega) (fun c => ?_)
    have w1 := gx_I_w hI 109 (z := (k : Int)) (v := (k : Int)) 0 5 0 5 (by decide +kernel) (by omega) (by omega) (by omega) (by omega)
    rw [Int.toNat_natCast] at w1 ⊢
    have := ih (k + 1) (gx_u m 109 k (k : Int)) (by omega) (by omega) w1 (gx_X_c.fw (mods := gx_rw) (gx_fw.rf.w ⟨_, List.mem_singleton.mpr rfl, rfl, Nat.zero_le _, by show k < 6; omega⟩) (by decide) hX) (hf.w ⟨(109, 0, 6), by simp [gx_od], rfl, Nat.zero_le _, by show k < 6; omega⟩) (by rw [gx_u_off (by decide : (86 : Nat) ≠ 109)]; exact h32) (fun i hi => by
      rw [gx_u_row]
      unfold lf_up
      by_cases e : i = k
      · rw [if_pos e, e]
      · rw [if_neg e]; exact hr i (by omega))
    rw [show ((k + 1 : Nat) : Int) = (k : Int) + 1 by omega] at this
    exact this
theorem gc_order (h : bw_H1 xs (gx_XW gx_X)) (hI : gx_I m) (hX : gx_X m) {n0 what : Int} (hQ : ∀ v m', gx_I m' → gx_X m' → gx_fw gx_od m m' → Q (some v) m') : gx_to xs w0 (d + 7) yp_m213 0 [(0, .inr 86), (1, .inl n0), (2, .inl what)] [] m Q := by
  have hno : ∀ v, Q (some v) m := fun v => hQ v m hI hX gx_fw.rf
  refine gt213_0 (gc_in (fun a b => gt213_8 hI (fun e => by omega) (fun _ _ => gx_K (bp_142 h) rfl (by omega) (by decide +kernel) rfl ⟨⟨rfl, rfl⟩, ⟨rfl, a, b⟩, trivial⟩ hI hX (fun r m1 he hI1 hX1 hf => ?_)) (fun _ _ => hno _)) (fun _ => gt213_8 hI (fun _ => hno _) (fun e => absurd rfl e) (fun e => absurd rfl e)))
  obtain ⟨v, rfl, v1, v2⟩ := gx_end_i he
  have hf1 : gx_fw gx_od m m1 := hf.sub (fun q hq => ⟨q, by
    simp only [List.mem_cons, List.not_mem_nil, or_false] at hq
    rcases hq with rfl | rfl | rfl | rfl | rfl | rfl | rfl | rfl | rfl | rfl | rfl <;> simp [gx_od], rfl, Nat.le_refl _, Nat.le_refl _⟩)
  have hno1 : ∀ v, Q (some v) m1 := fun v => hQ v m1 hI1 hX1 hf1
  have hb := gx_I_n hI1 86 32 0 16 (by decide +kernel)
  refine gt213_26 hI1 (fun _ _ => hno1 _) (fun _ c => gc_in (fun a b => gt213_54 (fun _ => ?_) (fun e => by omega)) (fun _ => gt213_54 (fun e => absurd rfl e) (fun _ => hno1 _))) (fun _ => hno1 _)
  refine gx_K (bp_100 h) rfl (Nat.zero_le _) (by decide +kernel) rfl ⟨⟨rfl, rfl⟩, ⟨rfl, rfl⟩, trivial⟩ hI1 hX1 (fun r m2 he hI2 hX2 hf2 => ?_)
  rw [gx_end_0 he]
  have e86 : m2 86 = m1 86 := hf2.row (fun q hq e => by rw [List.mem_singleton] at hq; subst hq; cases e)
  obtain ⟨n, hn⟩ : ∃ n : Nat, m1 86 32 = n := ⟨(m1 86 32).toNat, by omega⟩
  refine gt213_71 (gl_o73 h (n := n) (by omega) (by omega) hQ n 0 m2 rfl (by omega) hI2 hX2 (hf1.tr (hf2.sub (fun q hq => ⟨q, by rw [List.mem_singleton] at hq; subst hq; simp [gx_od], rfl, Nat.le_refl _, Nat.le_refl _⟩))) (by rw [e86]; exact hn) (fun i hi => absurd hi (Nat.not_lt_zero _)))
theorem gk_order (h : bw_H1 xs (gx_XW gx_X)) : bx_Kok yp_P xs bw_INV (gx_XW gx_X) bk_110 := by
  refine gx_K_of (by decide) rfl (fun M w0 v m hM hv hI hX _ => ?_)
  cases (Option.some.inj (hM.symm.trans rfl) : M = yp_m213)
  match v, hv with
  | x1 :: x2 :: r, hv =>
    exact gc_order (d := 1) h hI hX (fun v m' hI' hX' hf hb => ⟨⟨rfl, hb v rfl⟩, hI', hX', hf⟩)
end GOR
