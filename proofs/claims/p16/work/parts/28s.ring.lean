/-! laysRing -/
section GRG
variable {xs : List Int32} {w0 : sx_W} {d : Nat} {Q : gx_Q} {m : gx_M}
theorem gx_feel_row {m m' : gx_M} (h : gx_fw gx_feel m m') {c : Nat} (h1 : c ≠ 102) (h2 : c ≠ 103) : m' c = m c := h.row (fun q hq e => by
  rw [gx_feel, List.mem_cons, List.mem_singleton] at hq
  rcases hq with rfl | rfl
  · exact h1 e.symm
  · exact h2 e.symm)
theorem gl_wants (h : bw_H1 xs (gx_XW gx_X)) {m0 : gx_M} {x1 l : Int} (hx : 0 ≤ x1 ∧ x1 ≤ 7) (hQ : ∀ v m', ((∃ i : Nat, (i : Int) < m0 86 37 ∧ gx_has l (i : Int)) → 0 ≤ v ∧ v < m0 86 37 ∧ gx_has l v) → gx_I m' → gx_X m' → gx_fw gx_feel m0 m' → Q (some v) m') : ∀ (j k : Nat) (b w : Int) (m : gx_M), 8 - k = j → k ≤ 8 → gx_I m → gx_X m → gx_fw gx_feel m0 m → ((b = -1 ∧ ∀ i : Nat, i < k → ¬ gx_has l (i : Int)) ∨ (0 ≤ b ∧ b < m0 86 37 ∧ gx_has l b)) → gx_to xs w0 (d + 5) yp_m250 8 [(0, .inr 86), (1, .inl x1), (2, .inl l), (3, .inl b), (4, .inl w), (5, .inl (k : Int))] [] m Q := by
  intro j
  induction j with
  | zero =>
    intro k b w m hj hk hI hX hf hinv
    have hb := gx_I_n hI 86 37 0 8 (by decide +kernel)
    have e86 := congrFun (gx_feel_row hf (by decide : (86 : Nat) ≠ 102) (by decide)) 37
    refine gt250_8 hI (by omega) (fun _ => hQ b m (fun ⟨i, h1, h2⟩ => ?_) hI hX hf) (fun c => by omega)
    rcases hinv with ⟨-, hn⟩ | hp
    · exact absurd h2 (hn i (by omega))
    · exact hp
  | succ j ih =>
    intro k b w m hj hk hI hX hf hinv
    have e86 := congrFun (gx_feel_row hf (by decide : (86 : Nat) ≠ 102) (by decide)) 37
    have hrec : ∀ (b w : Int) (m' : gx_M), gx_I m' → gx_X m' → gx_fw gx_feel m0 m' → ((b = -1 ∧ ∀ i : Nat, i < k + 1 → ¬ gx_has l (i : Int)) ∨ (0 ≤ b ∧ b < m0 86 37 ∧ gx_has l b)) → gx_to xs w0 (d + 5) yp_m250 8 [(0, .inr 86), (1, .inl x1), (2, .inl l), (3, .inl b), (4, .inl w), (5, .inl ((k : Int) + 1))] [] m' Q := fun b w m' h1 h2 h3 h4 => by
      have := ih (k + 1) b w m' (by omega) (by omega) h1 h2 h3 h4
      rw [show ((k + 1 : Nat) : Int) = (k : Int) + 1 by omega] at this
      exact this
    refine gt250_8 hI (by omega) (fun c => hQ b m (fun ⟨i, h1, h2⟩ => ?_) hI hX hf) (fun c => gc_has
      (fun hh => gt250_23 hI hx (by omega) (fun _ => gc_worthOf h hI hX ?_ ?_ (fun v m' _ _ hI' hX' hf' => ?_)) (fun e => by omega))
      (fun hh => gt250_23 hI hx (by omega) (fun e => absurd rfl e) (fun _ => hrec b w m hI hX hf ?_)))
    · rcases hinv with ⟨-, hn⟩ | hp
      · exact absurd h2 (hn i (by omega))
      · exact hp
    · exact gx_I_at hI 112 (z := (k : Int)) 0 7 0 39 (by decide +kernel) (by omega) (by omega)
    · have h1 := gx_I_at hI 112 (z := x1) 0 7 0 39 (by decide +kernel) (by omega) (by omega)
      exact gx_I_at hI 87 (z := 240 + m 112 x1.toNat) 240 279 (-2) 7 (by decide +kernel) (by omega) (by omega)
    · have hk' : (0 ≤ (k : Int) ∧ (k : Int) < m0 86 37 ∧ gx_has l (k : Int)) := ⟨by omega, by omega, hh⟩
      refine gt250_55 hx (by omega) (fun _ => hrec _ _ m' hI' hX' (hf.tr hf') (.inr hk')) (fun _ _ => hrec _ _ m' hI' hX' (hf.tr hf') (.inr hk')) (fun c1 _ => hrec _ _ m' hI' hX' (hf.tr hf') ?_)
      rcases hinv with ⟨e, -⟩ | hp
      · exact absurd e c1
      · exact .inr hp
    · rcases hinv with ⟨e, hn⟩ | hp
      · refine .inl ⟨e, fun i hi => ?_⟩
        by_cases e2 : i = k
        · rw [e2]; exact hh
        · exact hn i (by omega)
      · exact .inr hp
theorem gc_wants (h : bw_H1 xs (gx_XW gx_X)) {x1 l : Int} (hx : 0 ≤ x1 ∧ x1 ≤ 7) (hI : gx_I m) (hX : gx_X m) (hQ : ∀ v m', ((∃ i : Nat, (i : Int) < m 86 37 ∧ gx_has l (i : Int)) → 0 ≤ v ∧ v < m 86 37 ∧ gx_has l v) → gx_I m' → gx_X m' → gx_fw gx_feel m m' → Q (some v) m') : gx_to xs w0 (d + 5) yp_m250 0 [(0, .inr 86), (1, .inl x1), (2, .inl l)] [] m Q :=
  gt250_0 (gl_wants h hx hQ 8 0 (-1) 0 m rfl (by omega) hI hX gx_fw.rf (.inl ⟨rfl, fun i hi => absurd hi (Nat.not_lt_zero _)⟩))
def gr_f (m : gx_M) : Nat → Nat := fun k => (m 115 k).toNat
def gr_cy (m : gx_M) (p : Nat) : Prop := ∃ i : Nat, 1 ≤ i ∧ (i : Int) ≤ m 86 37 ∧ lr_it (gr_f m) i p = p
theorem gl_inr {p : Nat} (hp : p < 8) (hI : gx_I m) (hQ1 : Q (some 1) m) (hQ0 : ¬ gr_cy m p → Q (some 0) m) : ∀ (j k a : Nat), 8 - k = j → k ≤ 8 → a < 8 → a = lr_it (gr_f m) (k + 1) p → (∀ i, 1 ≤ i → i ≤ k → lr_it (gr_f m) i p ≠ p) → gx_to xs w0 d yp_m251 9 [(0, .inr 86), (1, .inl (p : Int)), (2, .inl (a : Int)), (3, .inl (k : Int))] [] m Q := by
  have hb := gx_I_n hI 86 37 0 8 (by decide +kernel)
  intro j
  induction j with
  | zero =>
    intro k a hj hk ha he hn
    exact gt251_9 hI (by omega) (by omega) (by omega) (fun c _ => hQ0 (fun ⟨i, h1, h2, h3⟩ => hn i h1 (by omega) h3)) (fun _ _ => hQ1) (fun _ e e' => absurd e e') (fun _ _ _ => hQ1) (fun c => by omega)
  | succ j ih =>
    intro k a hj hk ha he hn
    refine gt251_9 hI (by omega) (by omega) (by omega) (fun c _ => hQ0 (fun ⟨i, h1, h2, h3⟩ => hn i h1 (by omega) h3)) (fun _ _ => hQ1) (fun _ e e' => absurd e e') (fun _ _ _ => hQ1) (fun c c' => ?_)
    have hr := gx_I_at hI 115 (z := (a : Int)) 0 7 0 7 (by decide +kernel) (by omega) (by omega)
    rw [Int.toNat_natCast] at hr ⊢
    have := ih (k + 1) (gr_f m a) (by omega) (by omega) (by unfold gr_f; omega) (by rw [he]; rfl) (fun i h1 h2 => by
      by_cases e : i = k + 1
      · rw [e, ← he]; omega
      · exact hn i h1 (by omega))
    rw [show ((k + 1 : Nat) : Int) = (k : Int) + 1 by omega, show ((gr_f m a : Nat) : Int) = m 115 a by unfold gr_f; omega] at this
    exact this
theorem gc_inr {p : Nat} (hp : p < 8) (hI : gx_I m) (hQ1 : Q (some 1) m) (hQ0 : ¬ gr_cy m p → Q (some 0) m) : gx_to xs w0 d yp_m251 0 [(0, .inr 86), (1, .inl (p : Int))] [] m Q := by
  refine gt251_0 hI (by omega) ?_
  have hr := gx_I_at hI 115 (z := (p : Int)) 0 7 0 7 (by decide +kernel) (by omega) (by omega)
  rw [Int.toNat_natCast] at hr ⊢
  have := gl_inr (xs := xs) (w0 := w0) (d := d) hp hI hQ1 hQ0 8 0 (gr_f m p) rfl (by omega) (by unfold gr_f; omega) rfl (fun i h1 h2 => by omega)
  rw [show ((gr_f m p : Nat) : Int) = m 115 p by unfold gr_f; omega] at this
  exact this
def gx_rg : bx_M := [(102, 0, 260), (103, 0, 14), (115, 0, 8), (116, 0, 8)]
theorem gx_feel_rg {m m' : gx_M} (h : gx_fw gx_feel m m') : gx_fw gx_rg m m' := h.sub (fun q hq => ⟨q, by
  rw [gx_feel, List.mem_cons, List.mem_singleton] at hq
  rcases hq with rfl | rfl
  · exact List.mem_cons_self
  · exact List.mem_cons_of_mem _ List.mem_cons_self, rfl, Nat.le_refl _, Nat.le_refl _⟩)
theorem gx_rg86 {m m' : gx_M} (h : gx_fw gx_rg m m') : m' 86 = m 86 := h.row (fun q hq e => by
  simp only [gx_rg, List.mem_cons, List.not_mem_nil, or_false] at hq
  rcases hq with rfl | rfl | rfl | rfl <;> cases e)
theorem gl_ring15 (h : bw_H1 xs (gx_XW gx_X)) {m0 : gx_M} {l : Int} {n : Nat} (hn : m0 86 37 = n) (h8 : n ≤ 8) (hl : ∀ k : Nat, k < 8 → gx_has l (k : Int) → k < n)
    (hQ : ∀ m, gx_I m → gx_X m → gx_fw gx_rg m0 m → (∀ i : Nat, i < 8 → gx_has l (i : Int) → 0 ≤ m 115 i ∧ m 115 i < n ∧ gx_has l (m 115 i)) → gx_to xs w0 (d + 6) yp_m249 53 [(0, .inr 86), (1, .inl l), (2, .inl 0), (3, .inl 0)] [] m Q) : ∀ (j k : Nat) (m : gx_M), n - k = j → k ≤ n → gx_I m → gx_X m → gx_fw gx_rg m0 m → (∀ i : Nat, i < k → gx_has l (i : Int) → 0 ≤ m 115 i ∧ m 115 i < n ∧ gx_has l (m 115 i)) → gx_to xs w0 (d + 6) yp_m249 15 [(0, .inr 86), (1, .inl l), (2, .inl (k : Int))] [] m Q := by
  intro j
  induction j with
  | zero =>
    intro k m hj hk hI hX hf hinv
    have e86 := congrFun (gx_rg86 hf) 37
    exact gt249_15 hI (by omega) (fun _ => hQ m hI hX hf (fun i h1 h2 => hinv i (by have := hl i h1 h2; omega) h2)) (fun c => by omega)
  | succ j ih =>
    intro k m hj hk hI hX hf hinv
    have e86 := congrFun (gx_rg86 hf) 37
    have hrec : ∀ m', gx_I m' → gx_X m' → gx_fw gx_rg m0 m' → (∀ i : Nat, i < k + 1 → gx_has l (i : Int) → 0 ≤ m' 115 i ∧ m' 115 i < n ∧ gx_has l (m' 115 i)) → gx_to xs w0 (d + 6) yp_m249 15 [(0, .inr 86), (1, .inl l), (2, .inl ((k : Int) + 1))] [] m' Q := fun m' h1 h2 h3 h4 => by
      have := ih (k + 1) m' (by omega) (by omega) h1 h2 h3 h4
      rw [show ((k + 1 : Nat) : Int) = (k : Int) + 1 by omega] at this
      exact this
    refine gt249_15 hI (by omega) (fun c => by omega) (fun c => gc_has
      (fun hh => gt249_28 (by omega) (fun e => by omega) (fun _ => gc_wants h (by omega) hI hX (fun v m' hv hI' hX' hf' => ?_)))
      (fun hh => gt249_28 (by omega) (fun _ => hrec m hI hX hf (fun i h1 h2 => ?_)) (fun e => absurd rfl e)))
    · obtain ⟨v1, v2, v3⟩ := hv ⟨k, c, hh⟩
      have e115 := gx_feel_row hf' (by decide : (115 : Nat) ≠ 102) (by decide)
      refine gt249_42 (by omega) (by omega) (hrec _ (gx_I_w hI' 115 (z := (k : Int)) 0 7 0 7 (by decide +kernel) (by omega) (by omega) v1 (by omega)) ?_ ?_ (fun i h1 h2 => ?_))
      · exact gx_X_c.fw (mods := [(115, 0, 8)]) (gx_fw.rf.w ⟨_, List.mem_singleton.mpr rfl, rfl, Nat.zero_le _, by show ((k : Int)).toNat < 8; omega⟩) (by decide) hX'
      · exact (hf.tr (gx_feel_rg hf')).w ⟨(115, 0, 8), by simp [gx_rg], rfl, Nat.zero_le _, by show ((k : Int)).toNat < 8; omega⟩
      · rw [gx_u_row, Int.toNat_natCast]
        unfold lf_up
        by_cases e : i = k
        · rw [if_pos e]
          exact ⟨v1, by omega, v3⟩
        · rw [if_neg e, e115]
          exact hinv i (by omega) h2
    · by_cases e : i = k
      · rw [e] at h2; exact absurd h2 hh
      · exact hinv i (by omega) h2
theorem gl_ring53 {m0 : gx_M} {l : Int} {n : Nat} (hn : m0 86 37 = n) (h8 : n ≤ 8) {f : Nat → Int} (hQ : ∀ g m, gx_I m → gx_X m → gx_fw gx_rg m0 m → (∀ i : Nat, i < n → gx_has l (i : Int) → (∃ t : Nat, 1 ≤ t ∧ t ≤ n ∧ lr_it (fun k => (f k).toNat) t i = i) → gx_has g (i : Int)) → gx_to xs w0 (d + 1) yp_m249 9 [(0, .inr 86), (1, .inl (gx_and l (gx_xor g (-1))))] [] m Q) : ∀ (j k : Nat) (g : Int) (m : gx_M), n - k = j → k ≤ n → gx_I m → gx_X m → gx_fw gx_rg m0 m → m 115 = f → (∀ i : Nat, i < k → gx_has l (i : Int) → (∃ t : Nat, 1 ≤ t ∧ t ≤ n ∧ lr_it (fun k => (f k).toNat) t i = i) → gx_has g (i : Int)) → gx_to xs w0 (d + 1) yp_m249 53 [(0, .inr 86), (1, .inl l), (2, .inl g), (3, .inl (k : Int))] [] m Q := by
  intro j
  induction j with
  | zero =>
    intro k g m hj hk hI hX hf h115 hinv
    have e86 := congrFun (gx_rg86 hf) 37
    exact gt249_53 hI (by omega) (fun _ => hQ g m hI hX hf (fun i h1 h2 h3 => hinv i (by omega) h2 h3)) (fun c => by omega)
  | succ j ih =>
    intro k g m hj hk hI hX hf h115 hinv
    have e86 := congrFun (gx_rg86 hf) 37
    have hrec : ∀ g m', gx_I m' → gx_X m' → gx_fw gx_rg m0 m' → m' 115 = f → (∀ i : Nat, i < k + 1 → gx_has l (i : Int) → (∃ t : Nat, 1 ≤ t ∧ t ≤ n ∧ lr_it (fun k => (f k).toNat) t i = i) → gx_has g (i : Int)) → gx_to xs w0 (d + 1) yp_m249 53 [(0, .inr 86), (1, .inl l), (2, .inl g), (3, .inl ((k : Int) + 1))] [] m' Q := fun g m' h1 h2 h3 h4 h5 => by
      have := ih (k + 1) g m' (by omega) (by omega) h1 h2 h3 h4 h5
      rw [show ((k + 1 : Nat) : Int) = (k : Int) + 1 by omega] at this
      exact this
    refine gt249_53 hI (by omega) (fun c => by omega) (fun c => gc_has
      (fun hh => gt249_66 (by omega) (fun e => by omega) (fun _ => gc_inr (by omega) hI
        (gt249_74 hI (by omega) (fun _ => ?_) (fun e => by omega))
        (fun hno => gt249_74 hI (by omega) (fun e => absurd rfl e) (fun _ => hrec g m hI hX hf h115 (fun i h1 h2 h3 => ?_)))))
      (fun hh => gt249_66 (by omega) (fun _ => hrec g m hI hX hf h115 (fun i h1 h2 h3 => ?_)) (fun e => absurd rfl e)))
    · have hv := gx_I_at hI 115 (z := (k : Int)) 0 7 0 7 (by decide +kernel) (by omega) (by omega)
      refine hrec _ _ (gx_I_w hI 116 (z := (k : Int)) 0 7 0 7 (by decide +kernel) (by omega) (by omega) hv.1 hv.2) ?_ ?_ ?_ (fun i h1 h2 h3 => ?_)
      · exact gx_X_c.fw (mods := [(116, 0, 8)]) (gx_fw.rf.w ⟨_, List.mem_singleton.mpr rfl, rfl, Nat.zero_le _, by show ((k : Int)).toNat < 8; omega⟩) (by decide) hX
      · exact hf.w ⟨(116, 0, 8), by simp [gx_rg], rfl, Nat.zero_le _, by show ((k : Int)).toNat < 8; omega⟩
      · rw [gx_u_off (by decide : (115 : Nat) ≠ 116)]
        exact h115
      · rw [gx_has_or (by omega) (by omega)]
        by_cases e : i = k
        · exact .inr e
        · exact .inl (hinv i (by omega) h2 h3)
    · by_cases e : i = k
      · obtain ⟨t, t1, t2, t3⟩ := h3
        refine absurd ⟨t, t1, by omega, ?_⟩ hno
        unfold gr_f
        rw [h115, ← e]
        exact t3
      · exact hinv i (by omega) h2 h3
    · by_cases e : i = k
      · rw [e] at h2; exact absurd h2 hh
      · exact hinv i (by omega) h2 h3
theorem gl_ring9 (h : bw_H1 xs (gx_XW gx_X)) {m0 : gx_M} {n : Nat} (hn : m0 86 37 = n) (h8 : n ≤ 8) (hQ : ∀ m, gx_I m → gx_X m → gx_fw gx_rg m0 m → Q none m) : ∀ (c : Nat) (l : Int) (m : gx_M), lr_c (fun k => gx_has l (k : Int)) ≤ c → 0 ≤ l → l ≤ 255 → (∀ k : Nat, k < 8 → gx_has l (k : Int) → k < n) → gx_I m → gx_X m → gx_fw gx_rg m0 m → gx_to xs w0 (d + 6) yp_m249 9 [(0, .inr 86), (1, .inl l)] [] m Q := by
  intro c
  induction c using Nat.strongRecOn with
  | _ c ih =>
    intro l m hc h0 h255 hl hI hX hf
    refine gt249_9 (fun _ => hQ m hI hX hf) (fun hne => gl_ring15 h hn h8 hl (fun m1 hI1 hX1 hf1 hin => ?_) n 0 m (by omega) (by omega) hI hX hf (fun i hi => absurd hi (Nat.not_lt_zero _)))
    refine gl_ring53 hn h8 (f := m1 115) (fun g m2 hI2 hX2 hf2 hg => ?_) n 0 0 m1 (by omega) (by omega) hI1 hX1 hf1 rfl (fun i hi => absurd hi (Nat.not_lt_zero _))
    obtain ⟨x, hx8, hx⟩ := gx_has_some l.toNat (by omega) (by omega)
    rw [show ((l.toNat : Nat) : Int) = l by omega] at hx
    obtain ⟨y, hy, t, t1, t2, t3⟩ := lr_ring (f := fun k => (m1 115 k).toNat) (S := fun k => k < 8 ∧ gx_has l (k : Int)) (n := n) (x := x) (fun k hk => by
      obtain ⟨g1, g2, g3⟩ := hin k hk.1 hk.2
      refine ⟨by omega, ?_⟩
      rw [show (((m1 115 k).toNat : Nat) : Int) = m1 115 k by omega]
      exact g3) (fun k hk => hl k hk.1 hk.2) ⟨hx8, hx⟩
    have hgy := hg y (hl y hy.1 hy.2) hy.2 ⟨t, t1, t2, t3⟩
    have hle := gx_and_le (l := l) (y := gx_xor g (-1)) h0 (by omega)
    have hlt := lr_c_lt (p := fun k => gx_has l (k : Int)) (q := fun k => gx_has (gx_and l (gx_xor g (-1))) (k : Int)) (fun k hk hq => ((gx_has_not hk).mp hq).1) hy.1 hy.2 (fun hq => ((gx_has_not hy.1).mp hq).2 hgy)
    exact ih _ (Nat.lt_of_lt_of_le hlt hc) _ m2 (Nat.le_refl _) hle.1 (by omega) (fun k hk hq => hl k hk ((gx_has_not hk).mp hq).1) hI2 hX2 hf2
theorem gc_ring (h : bw_H1 xs (gx_XW gx_X)) (hI : gx_I m) (hX : gx_X m) (hQ : ∀ m', gx_I m' → gx_X m' → gx_fw gx_rg m m' → Q none m') : gx_to xs w0 (d + 6) yp_m249 0 [(0, .inr 86)] [] m Q := by
  have hb := gx_I_n hI 86 37 0 8 (by decide +kernel)
  obtain ⟨n, hn⟩ : ∃ n : Nat, m 86 37 = n := ⟨(m 86 37).toNat, by omega⟩
  obtain ⟨⟨g1, g2⟩, g3⟩ := gx_has_all n (by omega)
  refine gt249_0 hI ?_
  rw [hn]
  exact gl_ring9 h hn (by omega) hQ _ _ m (Nat.le_refl _) g1 g2 (fun k hk hh => g3 k hk hh) hI hX gx_fw.rf
theorem gk_ring (h : bw_H1 xs (gx_XW gx_X)) : bx_Kok yp_P xs bw_INV (gx_XW gx_X) bk_260 := by
  refine gx_K_of (by decide) rfl (fun M w0 v m hM hv hI hX _ => ?_)
  cases (Option.some.inj (hM.symm.trans rfl) : M = yp_m249)
  exact gc_ring (d := 2) h hI hX (fun m' hI' hX' hf _ => ⟨trivial, hI', hX', hf⟩)
end GRG
