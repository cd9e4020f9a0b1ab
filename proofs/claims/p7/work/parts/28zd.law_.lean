section
/-! law: the state of the reading, and its small steps -/
def lq_md (a : Nat) : bx_M := [(86, 5, 6), (86, 7, 12), (91, a, 260), (92, 0, 260)]
def lq_F (m0 : gx_M) (a : Nat) (m : gx_M) : Prop := gx_I m ∧ gx_fw (lq_md a) m0 m
theorem lq_F.w86 {m0 m : gx_M} {a : Nat} (h : lq_F m0 a m) {k : Nat} {v : Int} (hk : k = 7 ∨ k = 8 ∨ k = 9 ∨ k = 10 ∨ k = 11) (h1 : -2147483648 ≤ v) (h2 : v ≤ 2147483647) : lq_F m0 a (gx_u m 86 k v) := by
  have hc : gx_cow 86 7 11 (-2147483648) 2147483647 = true := by decide +kernel
  have := gx_I_w h.1 86 (z := (k : Int)) (v := v) 7 11 _ _ hc (by omega) (by omega) h1 h2
  rw [Int.toNat_natCast] at this
  exact ⟨this, h.2.w ⟨(86, 7, 12), by simp [lq_md], rfl, by show 7 ≤ k; omega, by show k < 12; omega⟩⟩
theorem lq_F.w5 {m0 m : gx_M} {a : Nat} (h : lq_F m0 a m) {v : Int} (h1 : 0 ≤ v) (h2 : v ≤ 260) : lq_F m0 a (gx_u m 86 5 v) :=
  ⟨gx_I_w h.1 86 (z := 5) (v := v) 5 5 0 260 (by decide +kernel) (by omega) (by omega) h1 h2, h.2.w ⟨(86, 5, 6), by simp [lq_md], rfl, Nat.le_refl _, by decide⟩⟩
theorem lq_F.w91 {m0 m : gx_M} {a : Nat} (h : lq_F m0 a m) {k : Nat} {v : Int} (hk : a ≤ k) (hk' : k < 260) (h1 : -2147483648 ≤ v) (h2 : v ≤ 2147483647) : lq_F m0 a (gx_u m 91 k v) := by
  have := gx_I_w h.1 91 (z := (k : Int)) (v := v) 0 259 (-2147483648) 2147483647 (by decide +kernel) (by omega) (by omega) h1 h2
  rw [Int.toNat_natCast] at this
  exact ⟨this, h.2.w ⟨(91, a, 260), by simp [lq_md], rfl, hk, hk'⟩⟩
theorem lq_F.w92 {m0 m : gx_M} {a : Nat} (h : lq_F m0 a m) {k : Nat} {v : Int} (hk' : k < 260) (h1 : -2147483648 ≤ v) (h2 : v ≤ 2147483647) : lq_F m0 a (gx_u m 92 k v) := by
  have := gx_I_w h.1 92 (z := (k : Int)) (v := v) 0 259 (-2147483648) 2147483647 (by decide +kernel) (by omega) (by omega) h1 h2
  rw [Int.toNat_natCast] at this
  exact ⟨this, h.2.w ⟨(92, 0, 260), by simp [lq_md], rfl, Nat.zero_le _, hk'⟩⟩
theorem lq_F.at6 {m0 m : gx_M} {a : Nat} (h : lq_F m0 a m) : m 86 6 = m0 86 6 := h.2 86 6 (fun q hq => by
  simp only [lq_md, List.mem_cons, List.not_mem_nil, or_false] at hq
  rcases hq with rfl | rfl | rfl | rfl <;> simp)
/-- the state of the reading: place, codes, what waits -/
def lq_M (m0 : gx_M) (N : Int) (a e C W : Nat) (m : gx_M) : Prop := lq_F m0 a m ∧ (m 86 6 = N ∧ N ≤ 240 ∧ m 86 5 ≤ N) ∧ m 86 10 = (C : Int) ∧ m 86 11 = (W : Int) ∧ (W : Int) ≤ m 86 5 ∧ ((C + lq_ce (m 92) W + e : Nat) : Int) ≤ m 86 5 ∧ (∀ i, i < W → 0 ≤ m 92 i) ∧ a ≤ C
theorem lq_M.C250 {m0 m : gx_M} {N : Int} {a e C W : Nat} (h : lq_M m0 N a e C W m) : (C : Int) ≤ 240 ∧ (W : Int) ≤ 240 ∧ 0 ≤ m 86 5 := by
  obtain ⟨-, ⟨-, h1, h2⟩, -, -, h3, h4, -⟩ := h
  omega
theorem lq_M.P0 {m0 m : gx_M} {N : Int} {a e C W : Nat} (h : lq_M m0 N a e C W m) : 0 ≤ m 86 5 ∧ m 86 5 ≤ 240 := by
  obtain ⟨-, ⟨-, h1, h2⟩, -, -, h3, h4, -⟩ := h
  omega
def lq_here (m : gx_M) : Int := if m 86 5 < m 86 6 then gx_and (m 90 (m 86 5).toNat) 255 else -1
def lq_top (m : gx_M) (W : Nat) : Int := if W = 0 then -1 else m 92 (W - 1) / 1048576
section GLA
variable {xs : List Int32} {w0 : sx_W} {d : Nat} {Q : gx_Q} {m : gx_M}
theorem gc_here (hI : gx_I m) (hQ : Q (some (lq_here m)) m) : gx_to xs w0 d yp_m170 0 [(0, .inr 86)] [] m Q := by
  unfold lq_here at hQ
  exact gt170_0 hI (fun c => by rw [if_neg (by omega)] at hQ; exact hQ) (fun c => by rw [if_pos c] at hQ; exact hQ)
theorem lq_here_lt {m : gx_M} (h : lq_here m ≠ -1) : m 86 5 < m 86 6 := by
  unfold lq_here at h
  by_cases c : m 86 5 < m 86 6
  · exact c
  · rw [if_neg c] at h; exact absurd rfl h
theorem gc_wrong {m0 : gx_M} {a : Nat} (hF : lq_F m0 a m) {x y : Int} (hQ : ∀ m', lq_F m0 a m' → Q (some 0) m') : gx_to xs w0 d yp_m172 0 [(0, .inr 86), (1, .inl x), (2, .inl y)] [] m Q :=
  gt172_0 (hQ _ (hF.w86 (.inl rfl) (gx_w_bd _).1 (gx_w_bd _).2))
def lq_dg (m : gx_M) : Prop := 48 ≤ lq_here m ∧ lq_here m ≤ 57
theorem gc_dg (hI : gx_I m) (h1 : lq_dg m → Q (some 1) m) (h0 : ¬ lq_dg m → Q (some 0) m) : gx_to xs w0 (d + 1) yp_m176 0 [(0, .inr 86)] [] m Q :=
  gt176_0 (gc_here hI (gt176_4 (fun c => h0 (fun h => by have := h.1; omega)) (fun c => gc_here hI (gt176_13 (fun c' => h0 (fun h => by have := h.2; omega)) (fun c' => h1 ⟨c, c'⟩)))))
theorem gc_top {m0 : gx_M} {N : Int} {a e C W : Nat} (hM : lq_M m0 N a e C W m) (hQ : Q (some (lq_top m W)) m) : gx_to xs w0 d yp_m182 0 [(0, .inr 86)] [] m Q := by
  have hb := hM.C250
  obtain ⟨hF, -, -, hW, -, -, hw, -⟩ := hM
  unfold lq_top at hQ
  refine gt182_0 (by omega) (fun c => ?_) (fun c => by rw [if_pos (by omega)] at hQ; exact hQ)
  rw [if_neg (by omega)] at hQ
  have h0 := hw (W - 1) (by omega)
  have hr := gx_I_at hF.1 92 (z := ((W - 1 : Nat) : Int)) 0 259 (-2147483648) 2147483647 (by decide +kernel) (by omega) (by omega)
  rw [Int.toNat_natCast] at hr
  rw [hW, show ((W : Int) - 1).toNat = W - 1 by omega, Int.tdiv_eq_ediv_of_nonneg h0, gx_w_id (by omega) (by omega)]
  exact hQ
/-! a code is noted -/
def lq_note (m : gx_M) (C : Nat) (x : Int) : gx_M := gx_u (gx_u m 91 C x) 86 10 ((C : Int) + 1)
theorem lq_note91 (m : gx_M) (C : Nat) (x : Int) : lq_note m C x 91 = lf_up (m 91) C x := by
  unfold lq_note
  rw [gx_u_off (by decide), gx_u_row]
theorem lq_note92 (m : gx_M) (C : Nat) (x : Int) : lq_note m C x 92 = m 92 := by
  unfold lq_note
  rw [gx_u_off (by decide), gx_u_off (by decide)]
theorem lq_note_M {m0 : gx_M} {N : Int} {a e e' C W : Nat} {x : Int} (hM : lq_M m0 N a e C W m) (hx : 0 ≤ x ∧ x ≤ 2147483647) (hb : ((C + 1 + lq_ce (m 92) W + e' : Nat) : Int) ≤ m 86 5) : lq_M m0 N a e' (C + 1) W (lq_note m C x) := by
  have hb2 := hM.C250
  obtain ⟨hF, hN, hC, hW, hWP, -, hw, ha⟩ := hM
  refine ⟨(hF.w91 ha (by omega) (by omega) hx.2).w86 (by omega) (by omega) (by omega), hN, ?_, hW, hWP, ?_, ?_, by omega⟩
  · show (C : Int) + 1 = _
    omega
  · rw [lq_note92]
    exact hb
  · rw [lq_note92]
    exact hw
theorem gc_note {m0 : gx_M} {N : Int} {a e C W : Nat} {o v : Int} (hM : lq_M m0 N a e C W m) (ho : 0 ≤ o ∧ o ≤ 14) (hv : 0 ≤ v ∧ v ≤ 1048575) (hQ : Q none (lq_note m C (1048576 * o + v))) : gx_to xs w0 d yp_m178 0 [(0, .inr 86), (1, .inl o), (2, .inl v)] [] m Q := by
  have hb := hM.C250
  have hC := hM.2.2.1
  refine gt178_0 ho hv (by omega) ?_
  rw [hC, Int.toNat_natCast]
  exact hQ
/-! one is taken off what waits -/
theorem lq_pop_M {m0 : gx_M} {N : Int} {a e e' C W : Nat} (hM : lq_M m0 N a e C (W + 1) m) (hb : ((C + lq_ce (m 92) W + e' : Nat) : Int) ≤ m 86 5) : lq_M m0 N a e' C W (gx_u m 86 11 (W : Int)) := by
  have hb2 := hM.C250
  obtain ⟨hF, hN, hC, hW, hWP, -, hw, ha⟩ := hM
  refine ⟨hF.w86 (by omega) (by omega) (by omega), hN, hC, ?_, ?_, ?_, fun i hi => ?_, ha⟩
  · exact gx_u_self
  · show (W : Int) ≤ m 86 5
    omega
  · rw [gx_u_off (by decide : (92 : Nat) ≠ 86)]
    exact hb
  · rw [gx_u_off (by decide : (92 : Nat) ≠ 86)]
    exact hw i (by omega)
theorem lq_86_9 {m0 : gx_M} {N : Int} {a e C W : Nat} {v : Int} (hM : lq_M m0 N a e C W m) (hv : -2147483648 ≤ v ∧ v ≤ 2147483647) : lq_M m0 N a e C W (gx_u m 86 9 v) := by
  obtain ⟨hF, hN, hC, hW, hWP, hE, hw, ha⟩ := hM
  refine ⟨hF.w86 (by omega) hv.1 hv.2, hN, hC, hW, hWP, ?_, fun i hi => ?_, ha⟩
  · rw [gx_u_off (by decide : (92 : Nat) ≠ 86)]
    exact hE
  · rw [gx_u_off (by decide : (92 : Nat) ≠ 86)]
    exact hw i hi
theorem lq_86_8 {m0 : gx_M} {N : Int} {a e C W : Nat} {v : Int} (hM : lq_M m0 N a e C W m) (hv : -2147483648 ≤ v ∧ v ≤ 2147483647) : lq_M m0 N a e C W (gx_u m 86 8 v) := by
  obtain ⟨hF, hN, hC, hW, hWP, hE, hw, ha⟩ := hM
  refine ⟨hF.w86 (by omega) hv.1 hv.2, hN, hC, hW, hWP, ?_, fun i hi => ?_, ha⟩
  · rw [gx_u_off (by decide : (92 : Nat) ≠ 86)]
    exact hE
  · rw [gx_u_off (by decide : (92 : Nat) ≠ 86)]
    exact hw i hi
/-- the place goes on by one -/
theorem lq_step_M {m0 : gx_M} {N : Int} {a e e' C W : Nat} (hM : lq_M m0 N a e C W m) (hlt : m 86 5 < m 86 6) (he : e' ≤ e + 1) : lq_M m0 N a e' C W (gx_u m 86 5 (m 86 5 + 1)) := by
  have hP := hM.P0
  obtain ⟨hF, hN, hC, hW, hWP, hE, hw, ha⟩ := hM
  have e92 : gx_u m 86 5 (m 86 5 + 1) 92 = m 92 := gx_u_off (by decide)
  refine ⟨hF.w5 (by omega) (by omega), ⟨hN.1, hN.2.1, ?_⟩, hC, hW, ?_, ?_, fun i hi => ?_, ha⟩
  · rw [gx_u_self]; omega
  · rw [gx_u_self]; omega
  · rw [gx_u_self, e92]; omega
  · rw [e92]; exact hw i hi
/-- one is laid on what waits, the place goes on by one -/
def lq_push (m : gx_M) (W : Nat) (y : Int) : gx_M := gx_u (gx_u (gx_u m 92 W y) 86 11 ((W : Int) + 1)) 86 5 (m 86 5 + 1)
theorem lq_push91 (m : gx_M) (W : Nat) (y : Int) : lq_push m W y 91 = m 91 := by
  unfold lq_push
  rw [gx_u_off (by decide), gx_u_off (by decide), gx_u_off (by decide)]
theorem lq_push92 (m : gx_M) (W : Nat) (y : Int) : lq_push m W y 92 = lf_up (m 92) W y := by
  unfold lq_push
  rw [gx_u_off (by decide), gx_u_off (by decide), gx_u_row]
theorem lq_1e_le (x : Int) : lq_1e x ≤ 1 := by unfold lq_1e; split <;> omega
theorem lq_push_M {m0 : gx_M} {N : Int} {a e C W : Nat} {y : Int} (hM : lq_M m0 N a e C W m) (hlt : m 86 5 < m 86 6) (hy : 0 ≤ y ∧ y ≤ 2147483647) : lq_M m0 N a e C (W + 1) (lq_push m W y) := by
  have hP := hM.P0
  have hb := hM.C250
  obtain ⟨hF, hN, hC, hW, hWP, hE, hw, ha⟩ := hM
  have e5 : lq_push m W y 86 5 = m 86 5 + 1 := gx_u_self
  have h1 := lq_1e_le y
  refine ⟨((hF.w92 (by omega) (by omega) hy.2).w86 (by omega) (by omega) (by omega)).w5 (by omega) (by omega), ⟨hN.1, hN.2.1, by rw [e5]; omega⟩, hC, ?_, by rw [e5]; omega, ?_, fun i hi => ?_, ha⟩
  · show (W : Int) + 1 = _
    omega
  · rw [e5, lq_push92, lq_ce_up]
    omega
  · rw [lq_push92]
    by_cases e : i = W
    · rw [e, lf_up_eq]; exact hy.1
    · rw [lf_up_ne e]; exact hw i (by omega)
theorem gc_opens {m0 : gx_M} {N : Int} {a e C W : Nat} {o : Int} (hM : lq_M m0 N a e C W m) (hlt : m 86 5 < m 86 6) (ho : 10 ≤ o ∧ o ≤ 14) (hQ0 : ∀ m', lq_F m0 a m' → Q (some 0) m') (hQ : ∀ m', lq_M m0 N a e C (W + 1) m' → m' 91 = m 91 → m' 92 = lf_up (m 92) W (1048576 * o) → m' 86 5 = m 86 5 + 1 → Q (some 1) m') : gx_to xs w0 (d + 1) yp_m175 0 [(0, .inr 86), (1, .inl o)] [] m Q := by
  have hb := hM.C250
  have hW := hM.2.2.2.1
  refine gt175_0 hM.1.1 ho (by omega) (fun _ => ?_) (fun _ => gc_wrong hM.1 (fun m' h => gt175_18 (.inl rfl) (hQ0 m' h)))
  have h9 := lq_86_9 (v := gx_w (m 86 9 + 1)) hM (gx_w_bd _)
  have := lq_push_M (y := 1048576 * o) h9 hlt (by omega)
  rw [hW, Int.toNat_natCast]
  exact hQ _ this (by show lq_push _ _ _ 91 = _; rw [lq_push91, gx_u_off (by decide)]) (by show lq_push _ _ _ 92 = _; rw [lq_push92, gx_u_off (by decide)]) gx_u_self
end GLA
end
section
/-! law: sums -/
section GLE
variable {xs : List Int32} {w0 : sx_W} {d : Nat} {Q : gx_Q} {m : gx_M}
theorem lq_np_M {m0 : gx_M} {N : Int} {a e C W : Nat} {x : Int} (hM : lq_M m0 N a e C (W + 1) m) (hx : 0 ≤ x ∧ x ≤ 2147483647) (h1 : lq_1e (m 92 W) = 1) : lq_M m0 N a e (C + 1) W (gx_u (lq_note m C x) 86 11 (W : Int)) := by
  have hb2 := hM.C250
  obtain ⟨hF, hN, hC, hW, hWP, hE, hw, ha⟩ := hM
  have hce : lq_ce (m 92) (W + 1) = lq_ce (m 92) W + lq_1e (m 92 W) := rfl
  have e92 : gx_u (lq_note m C x) 86 11 (W : Int) 92 = m 92 := by rw [gx_u_off (by decide), lq_note92]
  refine ⟨((hF.w91 ha (by omega) (by omega) hx.2).w86 (by omega) (by omega) (by omega)).w86 (by omega) (by omega) (by omega), hN, ?_, gx_u_self, ?_, ?_, fun i hi => ?_, by omega⟩
  · show (C : Int) + 1 = _
    omega
  · show (W : Int) ≤ m 86 5
    omega
  · rw [e92]
    show ((C + 1 + lq_ce (m 92) W + e : Nat) : Int) ≤ m 86 5
    omega
  · rw [e92]; exact hw i (by omega)
theorem lq_ns_M {m0 : gx_M} {N : Int} {a e C W : Nat} {x : Int} (hM : lq_M m0 N a e C W m) (hlt : m 86 5 < m 86 6) (hx : 0 ≤ x ∧ x ≤ 2147483647) : lq_M m0 N a e (C + 1) W (gx_u (lq_note m C x) 86 5 (m 86 5 + 1)) := by
  have hb2 := hM.C250
  have hP := hM.P0
  obtain ⟨hF, hN, hC, hW, hWP, hE, hw, ha⟩ := hM
  have e92 : gx_u (lq_note m C x) 86 5 (m 86 5 + 1) 92 = m 92 := by rw [gx_u_off (by decide), lq_note92]
  refine ⟨((hF.w91 ha (by omega) (by omega) hx.2).w86 (by omega) (by omega) (by omega)).w5 (by omega) (by omega), ⟨hN.1, hN.2.1, by rw [gx_u_self]; omega⟩, ?_, hW, by rw [gx_u_self]; omega, by rw [gx_u_self, e92]; omega, fun i hi => by rw [e92]; exact hw i hi, by omega⟩
  show (C : Int) + 1 = _
  omega
/-- behind an operand, ahead of one -/
def lq_A (m0 : gx_M) (N : Int) (a e C W : Nat) (m : gx_M) : Prop := lq_M m0 N a e C W m ∧ lq_T (m 91) (m 92) a C W (lq_cb (m 92) W + e + 1)
def lq_B (m0 : gx_M) (N : Int) (a e C W : Nat) (m : gx_M) : Prop := lq_M m0 N a e C W m ∧ lq_T (m 91) (m 92) a C W (lq_cb (m 92) W + e)
theorem lq_top_S (m : gx_M) (W : Nat) : lq_top m (W + 1) = m 92 W / 1048576 := if_neg (by omega)
theorem gc_close {m0 : gx_M} {N : Int} {a e : Nat} {all : Int} : ∀ (W C : Nat) (m : gx_M), lq_A m0 N a e C W m → (∀ C' W' m', lq_A m0 N a e C' W' m' → W' ≤ W → m' 92 = m 92 → m' 86 5 = m 86 5 → (∀ i, W' ≤ i → i < W → lq_bn (m 92 i)) → (all ≠ 0 → W' = 0 ∨ ¬ lq_bn (m 92 (W' - 1))) → Q none m') → gx_to xs w0 (d + 1) yp_m181 0 [(0, .inr 86), (1, .inl all)] [] m Q := by
  intro W
  induction W with
  | zero =>
    intro C m hA hQ
    have ht : lq_top m 0 = -1 := if_pos rfl
    have hs : Q none m := hQ C 0 m hA (Nat.le_refl _) rfl rfl (fun i _ hi => absurd hi (Nat.not_lt_zero _)) (fun _ => .inl rfl)
    refine gt181_0 (gc_top hA.1 (gt181_4 (fun _ _ => hs) (fun _ _ => gc_top hA.1 (gt181_25 (fun c => by omega) (fun _ => gc_top hA.1 (gt181_33 (fun _ => hs) (fun c => by omega))))) (fun c => by omega)))
  | succ W ih =>
    intro C m hA hQ
    obtain ⟨hM, hT⟩ := hA
    have ht := lq_top_S m W
    have hstop : (all ≠ 0 → ¬ lq_bn (m 92 W)) → Q none m := fun h => hQ C (W + 1) m ⟨hM, hT⟩ (Nat.le_refl _) rfl rfl (fun i h1 h2 => by omega) (fun ha => .inr (h ha))
    have hpop : lq_bn (m 92 W) → gx_to xs w0 (d + 1) yp_m181 42 [(0, .inr 86), (1, .inl all)] [.inl (lq_top m (W + 1)), .inr 86] m Q := fun hbn => by
      have hbn' := hbn
      unfold lq_bn at hbn'
      rw [ht]
      refine gt181_42 (gc_note hM (by omega) (by omega) (gt181_46 (by have := hM.C250; have := hM.2.2.2.1; show 0 ≤ m 86 11 ∧ m 86 11 ≤ 250; omega) ?_))
      have e11 : lq_note m C (1048576 * (m 92 W / 1048576) + 0) 86 11 - 1 = (W : Int) := by
        show m 86 11 - 1 = _
        have := hM.2.2.2.1
        omega
      rw [e11]
      have hM2 := lq_np_M (x := 1048576 * (m 92 W / 1048576) + 0) hM (by omega) (lq_1e_b hbn)
      have e91 : gx_u (lq_note m C (1048576 * (m 92 W / 1048576) + 0)) 86 11 (W : Int) 91 = lf_up (m 91) C (1048576 * (m 92 W / 1048576) + 0) := by rw [gx_u_off (by decide), lq_note91]
      have e92 : gx_u (lq_note m C (1048576 * (m 92 W / 1048576) + 0)) 86 11 (W : Int) 92 = m 92 := by rw [gx_u_off (by decide), lq_note92]
      have hcb : lq_cb (m 92) (W + 1) = lq_cb (m 92) W + 1 := by
        show lq_cb (m 92) W + lq_1b (m 92 W) = _
        rw [lq_1b_t hbn]
      have hT2 : lq_T (lf_up (m 91) C (1048576 * (m 92 W / 1048576) + 0)) (m 92) a (C + 1) W (lq_cb (m 92) W + e + 1) := by
        refine lq_T_pop (lq_T_em hT ⟨by omega, ?_, fun _ => by omega, fun _ => by omega, fun _ => by omega, fun _ _ _ => by omega⟩) (fun hj => ?_)
        · unfold lq_jp; omega
        · unfold lq_jp at hj; omega
      refine ih (C + 1) _ ⟨hM2, by rw [e91, e92]; exact hT2⟩ (fun C' W' m' g1 g2 g3 g4 g5 g6 => ?_)
      rw [e92] at g3 g5 g6
      refine hQ C' W' m' g1 (by omega) g3 g4 (fun i i1 i2 => ?_) g6
      by_cases e : i = W
      · rw [e]; exact hbn
      · exact g5 i i1 (by omega)
    have h25 : all ≠ 0 → (lq_top m (W + 1) < 4 ∨ 6 < lq_top m (W + 1)) → gx_to xs w0 (d + 1) yp_m181 25 [(0, .inr 86), (1, .inl all)] [.inl (lq_top m (W + 1))] m Q := fun hall hr =>
      gt181_25 (fun c => gc_top hM (hpop (by unfold lq_bn; omega))) (fun c => gc_top hM (gt181_33 (fun c' => hstop (fun _ => by unfold lq_bn; omega)) (fun c' => gc_top hM (hpop (by unfold lq_bn; omega)))))
    exact gt181_0 (gc_top hM (gt181_4 (fun _ c => hstop (fun h => absurd c h)) (fun c hall => gc_top hM (h25 hall (.inl c))) (fun c => gc_top hM (gt181_12 (fun c' => gc_top hM (hpop (by unfold lq_bn; omega))) (fun _ c' => hstop (fun h => absurd c' h)) (fun c' hall => gc_top hM (h25 hall (.inr c')))))))
def lq_p10 : Nat → Int
  | 0 => 1
  | k + 1 => 10 * lq_p10 k
theorem lq_p5 : ∀ k : Nat, k < 6 → lq_p10 k ≤ 100000 := by decide
theorem gl_num {m0 : gx_M} {N : Int} {a e C W : Nat} {from0 : Int} {dg : Prop} {s w : Nat → Int} (hQ0 : ∀ m', lq_F m0 a m' → Q (some 0) m') (hQ : ∀ m', lq_M m0 N a e C W m' → m' 91 = s → m' 92 = w → 0 ≤ m' 86 8 ∧ m' 86 8 ≤ 99999 → from0 ≤ m' 86 5 → (dg → from0 + 1 ≤ m' 86 5) → Q (some 1) m') : ∀ (j t : Nat) (m : gx_M), N - m 86 5 ≤ j → lq_M m0 N a e C W m → m 91 = s → m 92 = w → t ≤ 5 → m 86 5 = from0 + t → 0 ≤ from0 → 0 ≤ m 86 8 ∧ m 86 8 + 1 ≤ lq_p10 t → (t = 0 → dg → lq_dg m) → gx_to xs w0 (d + 2) yp_m177 10 [(0, .inr 86), (1, .inl from0)] [] m Q := by
  intro j
  induction j with
  | zero =>
    intro t m hj hM hs hw ht hP hf hn hd
    have hP0 := hM.P0
    have hp := lq_p5 t (by omega)
    refine gt177_10 (by omega) (gc_dg hM.1.1 (fun c => ?_) (fun c => gt177_14 hM.1.1 (by omega) (fun _ => hQ m hM hs hw (by omega) (by omega) (fun hdg => ?_)) (fun e => absurd rfl e) (fun e => absurd rfl e)))
    · have h1 := lq_here_lt (m := m) (by have := c.1; omega)
      have := hM.2.1
      omega
    · have : t ≠ 0 := fun e => c (hd e hdg)
      omega
  | succ j ih =>
    intro t m hj hM hs hw ht hP hf hn hd
    have hP0 := hM.P0
    have hp := lq_p5 t (by omega)
    refine gt177_10 (by omega) (gc_dg hM.1.1 (fun c => ?_) (fun c => gt177_14 hM.1.1 (by omega) (fun _ => hQ m hM hs hw (by omega) (by omega) (fun hdg => ?_)) (fun e => absurd rfl e) (fun e => absurd rfl e)))
    · have h1 := lq_here_lt (m := m) (by have := c.1; omega)
      have hN := hM.2.1
      refine gt177_14 hM.1.1 (by omega) (fun e => by omega) (fun _ c5 => gc_here hM.1.1 ?_) (fun _ _ => gc_wrong hM.1 (fun m' h => gt177_36 (.inl rfl) (hQ0 m' h)))
      have c1 := c.1
      have c2 := c.2
      refine gt177_49 hM.1.1 (by omega) ?_
      rw [gx_w_id (x := 10 * m 86 8) (by omega) (by omega), gx_w_id (x := 10 * m 86 8 + lq_here m) (by omega) (by omega), gx_w_id (x := 10 * m 86 8 + lq_here m - 48) (by omega) (by omega)]
      have h8 := lq_86_8 (v := 10 * m 86 8 + lq_here m - 48) hM (by omega)
      have h5 := lq_step_M (e' := e) h8 h1 (by omega)
      refine ih (t + 1) _ ?_ h5 ?_ ?_ (by omega) ?_ hf ?_ (fun e => by omega)
      · rw [show gx_u (gx_u m 86 8 (10 * m 86 8 + lq_here m - 48)) 86 5 (m 86 5 + 1) 86 5 = m 86 5 + 1 from gx_u_self]
        omega
      · rw [gx_u_off (by decide), gx_u_off (by decide)]; exact hs
      · rw [gx_u_off (by decide), gx_u_off (by decide)]; exact hw
      · rw [show gx_u (gx_u m 86 8 (10 * m 86 8 + lq_here m - 48)) 86 5 (m 86 5 + 1) 86 5 = m 86 5 + 1 from gx_u_self]
        omega
      · show 0 ≤ 10 * m 86 8 + lq_here m - 48 ∧ 10 * m 86 8 + lq_here m - 48 + 1 ≤ 10 * lq_p10 t
        omega
    · have : t ≠ 0 := fun e => c (hd e hdg)
      omega
theorem gc_num {m0 : gx_M} {N : Int} {a e C W : Nat} (hM : lq_M m0 N a e C W m) (hQ0 : ∀ m', lq_F m0 a m' → Q (some 0) m') (hQ : ∀ m', lq_M m0 N a e C W m' → m' 91 = m 91 → m' 92 = m 92 → 0 ≤ m' 86 8 ∧ m' 86 8 ≤ 99999 → m 86 5 ≤ m' 86 5 → (lq_dg m → m 86 5 + 1 ≤ m' 86 5) → Q (some 1) m') : gx_to xs w0 (d + 2) yp_m177 0 [(0, .inr 86)] [] m Q := by
  have hP := hM.P0
  have h8 := lq_86_8 (v := 0) hM (by omega)
  exact gt177_0 hM.1.1 (gl_num (e := e) (C := C) (W := W) (N := N) (dg := lq_dg m) (s := m 91) (w := m 92) hQ0 hQ (N - m 86 5).toNat 0 _ (by show N - m 86 5 ≤ _; omega) h8 (gx_u_off (by decide)) (gx_u_off (by decide)) (by omega) (by show m 86 5 = m 86 5 + ((0 : Nat) : Int); omega) hP.1 ⟨Int.le_refl _, Int.le_refl _⟩ (fun _ hd => hd))
theorem gc_fact {c : Int} (hQ : ∀ v, v = -1 ∨ (0 ≤ v ∧ v ≤ 13 ∧ c ≠ -1) → Q (some v) m) : gx_to xs w0 d yp_m179 0 [(0, .inl c)] [] m Q :=
  gt179_0 (fun _ => hQ _ (.inl rfl)) (fun _ => hQ _ (.inr (by omega))) (fun _ => hQ _ (.inl rfl)) (fun _ => hQ _ (.inr (by omega))) (fun _ => hQ _ (.inr (by omega))) (fun _ => hQ _ (.inr (by omega))) (fun _ => hQ _ (.inl rfl)) (fun _ => hQ _ (.inl rfl)) (fun _ => hQ _ (.inr (by omega))) (fun _ => hQ _ (.inl rfl)) (fun _ => hQ _ (.inl rfl)) (fun _ => hQ _ (.inr (by omega))) (fun _ => hQ _ (.inr (by omega))) (fun _ => hQ _ (.inr (by omega))) (fun _ => hQ _ (.inl rfl)) (fun _ => hQ _ (.inr (by omega))) (fun _ => hQ _ (.inr (by omega))) (fun _ => hQ _ (.inl rfl)) (fun _ => hQ _ (.inl rfl)) (fun _ => hQ _ (.inr (by omega))) (fun _ => hQ _ (.inr (by omega))) (fun _ => hQ _ (.inl rfl)) (fun _ => hQ _ (.inl rfl)) (fun _ => hQ _ (.inl rfl)) (fun _ => hQ _ (.inl rfl)) (fun _ => hQ _ (.inr (by omega))) (fun _ => hQ _ (.inr (by omega)))
def lq_so (x : Int) : Prop := lq_bn x ∨ x / 1048576 = 14
/-- above base lie signs of sums and open brackets alone; below it all is as it was -/
def lq_SS (base : Nat) (w1 w : Nat → Int) (W : Nat) : Prop := base ≤ W ∧ (∀ i, base ≤ i → i < W → lq_so (w i)) ∧ ∀ i, i < base → w i = w1 i
theorem lq_SS.push {base W : Nat} {w1 w : Nat → Int} {y : Int} (h : lq_SS base w1 w W) (hy : lq_so y) : lq_SS base w1 (lf_up w W y) (W + 1) := by
  obtain ⟨h1, h2, h3⟩ := h
  refine ⟨by omega, fun i i1 i2 => ?_, fun i hi => ?_⟩
  · by_cases e : i = W
    · rw [e, lf_up_eq]; exact hy
    · rw [lf_up_ne e]; exact h2 i i1 (by omega)
  · rw [lf_up_ne (by omega)]; exact h3 i hi
theorem gl_fac {m0 : gx_M} {N : Int} {a e base : Nat} {w1 : Nat → Int} {p0 : Int} (hQ0 : ∀ m', lq_F m0 a m' → Q (some 0) m') (hQ : ∀ C' W' m', lq_A m0 N a e C' W' m' → lq_SS base w1 (m' 92) W' → p0 ≤ m' 86 5 → Q (some 1) m') : ∀ (j C W : Nat) (m : gx_M), N - m 86 5 ≤ j → lq_B m0 N a e C W m → lq_SS base w1 (m 92) W → p0 ≤ m 86 5 → gx_to xs w0 (d + 3) yp_m174 0 [(0, .inr 86)] [] m Q := by
  intro j
  induction j with
  | zero =>
    intro C W m hj hB hS hp
    obtain ⟨hM, hT⟩ := hB
    have hnl : ¬ m 86 5 < m 86 6 := by have := hM.2.1; omega
    have hh : lq_here m = -1 := if_neg hnl
    refine gt174_0 (gc_here hM.1.1 (gt174_4 (fun _ => gc_dg hM.1.1 (fun c => ?_) (fun c => gt174_24 (fun _ => gc_here hM.1.1 (gt174_51 (gc_fact (fun v hv => ?_)))) (fun e => absurd rfl e))) (fun c => by omega)))
    · have := c.1; omega
    · rcases hv with rfl | hv
      · exact gt174_54 hM.1.1 (fun e => absurd rfl e) (fun _ => gc_wrong hM.1 (fun m' h => gt174_69 (.inl rfl) (hQ0 m' h)))
      · exact absurd hh hv.2.2
  | succ j ih =>
    intro C W m hj hB hS hp
    obtain ⟨hM, hT⟩ := hB
    have hP := hM.P0
    have hb := hM.C250
    refine gt174_0 (gc_here hM.1.1 (gt174_4 (fun _ => gc_dg hM.1.1 (fun c => gt174_24 (fun e => by omega) (fun _ => gc_num hM (fun m' h => gt174_31 (fun e => absurd rfl e) (fun _ => hQ0 m' h)) (fun m' g1 g2 g3 g4 g5 g6 => gt174_31 (fun _ => gc_note g1 (by omega) (by omega) (gt174_45 ?_)) (fun e => by omega)))) (fun c => gt174_24 (fun _ => gc_here hM.1.1 (gt174_51 (gc_fact (fun v hv => ?_)))) (fun e => absurd rfl e))) (fun c => ?_)))
    · have g7 := g6 c
      have hE := hM.2.2.2.2.2.1
      have hM2 := lq_note_M (x := 1048576 * 0 + m' 86 8) (e' := e) g1 (by omega) (by rw [g3]; omega)
      refine hQ _ _ _ ⟨hM2, ?_⟩ (by rw [lq_note92, g3]; exact hS) (by show p0 ≤ m' 86 5; omega)
      rw [lq_note91, lq_note92, g2, g3]
      refine lq_T_em hT ⟨by omega, by unfold lq_jp; omega, fun _ => rfl, fun _ => by omega, fun _ => by omega, fun _ _ _ => by omega⟩
    · rcases hv with rfl | hv
      · exact gt174_54 hM.1.1 (fun e => absurd rfl e) (fun _ => gc_wrong hM.1 (fun m' h => gt174_69 (.inl rfl) (hQ0 m' h)))
      · have hlt := lq_here_lt hv.2.2
        refine gt174_54 hM.1.1 (fun _ => gc_note hM (by omega) (by omega) (gt174_76 ?_ ?_)) (fun e => by omega)
        · exact ((hM.1.w91 hM.2.2.2.2.2.2.2 (by omega) (by omega) (by omega)).w86 (by omega) (by omega) (by omega)).1
        · have hM2 := lq_ns_M (x := 1048576 * 1 + v) hM hlt (by omega)
          have e91 : gx_u (lq_note m C (1048576 * 1 + v)) 86 5 (m 86 5 + 1) 91 = lf_up (m 91) C (1048576 * 1 + v) := by rw [gx_u_off (by decide), lq_note91]
          have e92 : gx_u (lq_note m C (1048576 * 1 + v)) 86 5 (m 86 5 + 1) 92 = m 92 := by rw [gx_u_off (by decide), lq_note92]
          refine hQ _ _ _ ⟨hM2, ?_⟩ (by show lq_SS base w1 (gx_u (lq_note m C (1048576 * 1 + v)) 86 5 (m 86 5 + 1) 92) W; rw [e92]; exact hS) (by show p0 ≤ gx_u _ 86 5 (m 86 5 + 1) 86 5; rw [gx_u_self]; omega)
          show lq_T (gx_u (lq_note m C (1048576 * 1 + v)) 86 5 (m 86 5 + 1) 91) (gx_u (lq_note m C (1048576 * 1 + v)) 86 5 (m 86 5 + 1) 92) a (C + 1) W (lq_cb (gx_u (lq_note m C (1048576 * 1 + v)) 86 5 (m 86 5 + 1) 92) W + e + 1)
          rw [e91, e92]
          exact lq_T_em hT ⟨by omega, by unfold lq_jp; omega, fun _ => by omega, fun _ => ⟨by omega, rfl⟩, fun _ => by omega, fun _ _ _ => by omega⟩
    · have hlt := lq_here_lt (m := m) (by omega)
      refine gc_opens (d := d + 1) hM hlt (by omega) (fun m' h => gt174_15 (fun e => absurd rfl e) (fun _ => hQ0 m' h)) (fun m' g1 g2 g3 g4 => gt174_15 (fun _ => ?_) (fun e => by omega))
      refine ih C (W + 1) m' (by omega) ⟨g1, ?_⟩ (by rw [g3]; exact hS.push (.inr (by omega))) (by omega)
      rw [g2, g3, lq_cb_up, lq_1b_f (by unfold lq_bn; omega)]
      exact lq_T_push hT (by unfold lq_jp; omega)
theorem gl_hos {m0 : gx_M} {N : Int} {a e C W base : Nat} (hM : lq_M m0 N a e C W m) (h0 : (∀ i, base ≤ i → i < W → m 92 i / 1048576 ≠ 14) → Q (some 0) m) (h1 : (∃ i, base ≤ i ∧ i < W ∧ m 92 i / 1048576 = 14) → Q (some 1) m) : ∀ (j k : Nat), W - k = j → base ≤ k → k ≤ W → (∀ i, base ≤ i → i < k → m 92 i / 1048576 ≠ 14) → gx_to xs w0 d yp_m183 2 [(0, .inr 86), (2, .inl (k : Int))] [] m Q := by
  have hb := hM.C250
  have hW := hM.2.2.2.1
  intro j
  induction j with
  | zero => exact fun k hj hk hkW hn => gt183_2 (by omega) (by omega) (fun _ => h0 (fun i i1 i2 => hn i i1 (by omega))) (fun c => by omega) (fun c => by omega)
  | succ j ih =>
    intro k hj hk hkW hn
    have hw := hM.2.2.2.2.2.2.1 k (by omega)
    have hr := gx_I_at hM.1.1 92 (z := (k : Int)) 0 259 (-2147483648) 2147483647 (by decide +kernel) (by omega) (by omega)
    rw [Int.toNat_natCast] at hr
    have e : gx_w (Int.tdiv (m 92 ((k : Int)).toNat) 1048576) = m 92 k / 1048576 := by
      rw [Int.toNat_natCast, Int.tdiv_eq_ediv_of_nonneg hw, gx_w_id (by omega) (by omega)]
    refine gt183_2 (by omega) (by omega) (fun c => by omega) (fun _ c => ?_) (fun _ c => h1 ⟨k, hk, by omega, by rw [e] at c; exact c⟩)
    rw [e] at c
    have := ih (k + 1) (by omega) (by omega) (by omega) (fun i i1 i2 => by
      by_cases e2 : i = k
      · rw [e2]; exact c
      · exact hn i i1 (by omega))
    rw [show ((k + 1 : Nat) : Int) = (k : Int) + 1 by omega] at this
    exact this
theorem gc_hos {m0 : gx_M} {N : Int} {a e C W base : Nat} (hM : lq_M m0 N a e C W m) (hbW : base ≤ W) (h0 : (∀ i, base ≤ i → i < W → m 92 i / 1048576 ≠ 14) → Q (some 0) m) (h1 : (∃ i, base ≤ i ∧ i < W ∧ m 92 i / 1048576 = 14) → Q (some 1) m) : gx_to xs w0 d yp_m183 0 [(0, .inr 86), (1, .inl (base : Int))] [] m Q := by
  have hb := hM.C250
  exact gt183_0 (by omega) (gl_hos hM h0 h1 (W - base) base rfl (Nat.le_refl _) hbW (fun i i1 i2 => by omega))
theorem gc_sign {c : Int} (hQ : ∀ v, v = -1 ∨ (2 ≤ v ∧ v ≤ 6 ∧ c ≠ -1) → Q (some v) m) : gx_to xs w0 d yp_m180 0 [(0, .inl c)] [] m Q :=
  gt180_0 (fun _ _ _ _ _ => hQ _ (.inl rfl)) (fun _ _ _ _ _ => hQ _ (.inr (by omega))) (fun _ _ _ _ => hQ _ (.inr (by omega))) (fun _ _ _ => hQ _ (.inr (by omega))) (fun _ _ => hQ _ (.inr (by omega))) (fun _ => hQ _ (.inr (by omega)))
theorem gl_sum14 {m0 : gx_M} {N : Int} {a e base : Nat} {w1 : Nat → Int} (hnb : ∀ i, i < base → ¬ lq_bn (w1 i)) {p0 : Int} (hQ0 : ∀ m', lq_F m0 a m' → Q (some 0) m') (hQ : ∀ C' m', lq_M m0 N a e C' base m' → lq_T (m' 91) (m' 92) a C' base (e + 1) → (∀ i, i < base → m' 92 i = w1 i) → p0 ≤ m' 86 5 → Q (some 1) m') : ∀ (j C W : Nat) (m : gx_M), N - m 86 5 ≤ j → lq_A m0 N a e C W m → lq_SS base w1 (m 92) W → p0 ≤ m 86 5 → gx_to xs w0 (d + 4) yp_m173 14 [(0, .inr 86), (1, .inl (base : Int))] [] m Q := by
  intro j
  induction j using Nat.strongRecOn with
  | _ j ih =>
    intro C W m hj hA hS hp
    have hM := hA.1
    have hP := hM.P0
    have hb := hM.C250
    have hN := hM.2.1
    -- what closing leaves
    have hge : ∀ W', (∀ i, W' ≤ i → i < W → lq_bn (m 92 i)) → base ≤ W' := fun W' h => by
      by_cases c : base ≤ W'
      · exact c
      · have := h W' (Nat.le_refl _) (by have := hS.1; omega)
        rw [hS.2.2 W' (by omega)] at this
        exact absurd this (hnb W' (by omega))
    have hlast : gx_to xs w0 (d + 3) yp_m183 0 [(0, .inr 86), (1, .inl (base : Int))] [] m (fun r m' => gx_to xs w0 (d + 4) yp_m173 143 [(0, .inr 86)] (gx_rs r ++ []) m' Q) :=
      gc_hos hM hS.1 (fun hno => gt173_143 hM.1.1 (fun _ => gc_close (d := d + 2) W C m hA (fun C' W' m' g1 g2 g3 g4 g5 g6 => gt173_161 (by
        have hW' := hge W' g5
        have e : W' = base := by
          by_cases c : W' = base
          · exact c
          · rcases g6 (by decide) with h | h
            · omega
            · rcases hS.2.1 (W' - 1) (by omega) (by omega) with h2 | h2
              · exact absurd h2 h
              · exact absurd h2 (hno (W' - 1) (by omega) (by omega))
        subst e
        have hcb : lq_cb (m' 92) W' = 0 := lq_cb0 W' (fun i hi => by rw [g3, hS.2.2 i hi]; exact hnb i hi)
        have hT := g1.2
        rw [hcb, Nat.zero_add] at hT
        exact hQ C' m' g1.1 hT (fun i hi => by rw [g3]; exact hS.2.2 i hi) (by omega)))) (fun e => absurd rfl e))
        (fun _ => gt173_143 hM.1.1 (fun e => by omega) (fun _ => gc_wrong hM.1 (fun m' h => gt173_155 (.inl rfl) (hQ0 m' h))))
    refine gt173_14 (gc_here hM.1.1 (gt173_18 (gc_sign (fun v hv => ?_))))
    have hsig : ∀ all : Int, 2 ≤ v → v ≤ 6 → lq_here m ≠ -1 → gx_to xs w0 (d + 3) yp_m181 0 [(0, .inr 86), (1, .inl all)] [] m (fun r m' => gx_to xs w0 (d + 4) yp_m173 41 [(0, .inr 86), (1, .inl (base : Int)), (2, .inl v)] (gx_rs r ++ []) m' Q) := fun all v1 v2 hne => by
      have hlt := lq_here_lt hne
      refine gc_close (d := d + 2) W C m hA (fun C' W' m' g1 g2 g3 g4 g5 g6 => ?_)
      have hb' := g1.1.C250
      have hW' := hge W' g5
      have e11 := g1.1.2.2.2.1
      have hN' := g1.1.2.1
      refine gt173_41 g1.1.1.1 (by omega) (by omega) ?_
      rw [e11, Int.toNat_natCast]
      have hpM := lq_push_M (y := 1048576 * v) g1.1 (by omega) (by omega)
      have hSS : lq_SS base w1 (lq_push m' W' (1048576 * v) 92) (W' + 1) := by
        rw [lq_push92, g3]
        exact lq_SS.push ⟨hW', fun i i1 i2 => hS.2.1 i i1 (by omega), hS.2.2⟩ (.inl (by unfold lq_bn; omega))
      have hpT : lq_T (lq_push m' W' (1048576 * v) 91) (lq_push m' W' (1048576 * v) 92) a C' (W' + 1) (lq_cb (lq_push m' W' (1048576 * v) 92) (W' + 1) + e) := by
        rw [lq_push91, lq_push92, lq_cb_up, lq_1b_t (by unfold lq_bn; omega)]
        have := lq_T_push (y := 1048576 * v) g1.2 (by unfold lq_jp; omega)
        rwa [show lq_cb (m' 92) W' + e + 1 = lq_cb (m' 92) W' + 1 + e by omega] at this
      have e5 : lq_push m' W' (1048576 * v) 86 5 = m' 86 5 + 1 := gx_u_self
      exact gl_fac (d := d) (p0 := m 86 5 + 1) (fun m2 h => gt173_78 (fun e => absurd rfl e) (fun _ => hQ0 m2 h)) (fun C2 W2 m2 k1 k2 k3 => gt173_78 (fun _ => ih (N - m2 86 5).toNat (by have := k1.1.P0; have := k1.1.2.1; omega) C2 W2 m2 (by omega) k1 k2 (by omega)) (fun e => by omega)) (N - m 86 5).toNat C' (W' + 1) _ (by show N - lq_push m' W' (1048576 * v) 86 5 ≤ _; rw [e5]; omega) ⟨hpM, hpT⟩ hSS (by show m 86 5 + 1 ≤ lq_push m' W' (1048576 * v) 86 5; rw [e5]; omega)
    rcases hv with rfl | ⟨v1, v2, hne⟩
    · refine gt173_21 (fun _ => gc_here hM.1.1 (gt173_87 (fun _ => hlast) (fun c => ?_))) (fun e => absurd rfl e) (fun e => absurd rfl e)
      have hlt := lq_here_lt (m := m) (by omega)
      refine gc_hos hM hS.1 (fun _ => gt173_97 (fun _ => hlast) (fun e => absurd rfl e)) (fun hex => gt173_97 (fun e => by omega) (fun _ => gc_close (d := d + 2) W C m hA (fun C' W' m' g1 g2 g3 g4 g5 g6 => ?_)))
      have hW' := hge W' g5
      obtain ⟨i0, i1, i2, i3⟩ := hex
      have hgt : base < W' := by
        by_cases c2 : base < W'
        · exact c2
        · have := g5 i0 (by omega) i2
          unfold lq_bn at this
          omega
      obtain ⟨W2, rfl⟩ : ∃ k, W' = k + 1 := ⟨W' - 1, by omega⟩
      have h14 : m 92 W2 / 1048576 = 14 := by
        rcases g6 (by decide) with h | h
        · omega
        · rcases hS.2.1 W2 (by omega) (by omega) with h2 | h2
          · exact absurd h2 h
          · exact h2
      have hb' := g1.1.C250
      have e11 := g1.1.2.2.2.1
      have hE := g1.1.2.2.2.2.2.1
      have hce : lq_ce (m' 92) (W2 + 1) = lq_ce (m' 92) W2 + lq_1e (m' 92 W2) := rfl
      refine gt173_105 g1.1.1.1 (by omega) ?_
      rw [show m' 86 11 - 1 = (W2 : Int) by omega]
      have hM2 := lq_pop_M (e' := e) g1.1 (by omega)
      have hM3 := lq_86_9 (v := gx_w (m' 86 9 - 1)) hM2 (gx_w_bd _)
      have hN' := g1.1.2.1
      have hM4 := lq_step_M (e' := e) hM3 (by show m' 86 5 < m' 86 6; omega) (by omega)
      have e91 : gx_u (gx_u (gx_u m' 86 11 (W2 : Int)) 86 9 (gx_w (m' 86 9 - 1))) 86 5 (m' 86 5 + 1) 91 = m' 91 := by rw [gx_u_off (by decide), gx_u_off (by decide), gx_u_off (by decide)]
      have e92 : gx_u (gx_u (gx_u m' 86 11 (W2 : Int)) 86 9 (gx_w (m' 86 9 - 1))) 86 5 (m' 86 5 + 1) 92 = m' 92 := by rw [gx_u_off (by decide), gx_u_off (by decide), gx_u_off (by decide)]
      have e5 : gx_u (gx_u (gx_u m' 86 11 (W2 : Int)) 86 9 (gx_w (m' 86 9 - 1))) 86 5 (m' 86 5 + 1) 86 5 = m' 86 5 + 1 := gx_u_self
      refine ih (N - (m' 86 5 + 1)).toNat (by omega) C' W2 _ (by rw [e5]; omega) ⟨hM4, ?_⟩ ?_ (by rw [e5]; omega)
      · rw [e91, e92]
        have hT := g1.2
        have hcb : lq_cb (m' 92) (W2 + 1) = lq_cb (m' 92) W2 := by
          show lq_cb (m' 92) W2 + lq_1b (m' 92 W2) = _
          rw [lq_1b_f (by rw [g3]; unfold lq_bn; omega)]
          rfl
        rw [hcb] at hT
        exact lq_T_pop hT (by rw [g3]; unfold lq_jp; omega)
      · rw [e92, g3]
        exact ⟨by omega, fun i i1 i2 => hS.2.1 i i1 (by omega), hS.2.2⟩
    · exact gt173_21 (fun e => by omega) (fun _ _ => hsig _ v1 v2 hne) (fun _ _ => hsig _ v1 v2 hne)
theorem gc_sum {m0 : gx_M} {N : Int} {a e C W : Nat} (hM : lq_M m0 N a e C W m) (hT : lq_T (m 91) (m 92) a C W e) (hnb : ∀ i, i < W → ¬ lq_bn (m 92 i)) (hQ0 : ∀ m', lq_F m0 a m' → Q (some 0) m') (hQ : ∀ C' m', lq_M m0 N a e C' W m' → lq_T (m' 91) (m' 92) a C' W (e + 1) → (∀ i, i < W → m' 92 i = m 92 i) → m 86 5 ≤ m' 86 5 → Q (some 1) m') : gx_to xs w0 (d + 4) yp_m173 0 [(0, .inr 86)] [] m Q := by
  have hcb : lq_cb (m 92) W = 0 := lq_cb0 W hnb
  have hW := hM.2.2.2.1
  have hP := hM.P0
  have hN := hM.2.1
  refine gt173_0 ?_
  rw [hW]
  exact gl_fac (d := d) (p0 := m 86 5) (base := W) (w1 := m 92) (fun m' h => gt173_9 (fun e => absurd rfl e) (fun _ => hQ0 m' h)) (fun C' W' m' g1 g2 g3 => gt173_9 (fun _ => gl_sum14 hnb hQ0 hQ (N - m' 86 5).toNat C' W' m' (by have := g1.1.2.1; omega) g1 g2 g3) (fun e => by omega)) (N - m 86 5).toNat C W m (by omega) ⟨hM, by rw [hcb, Nat.zero_add]; exact hT⟩ ⟨Nat.le_refl _, fun i i1 i2 => by omega, fun i _ => rfl⟩ (Int.le_refl _)
end GLE
end
section
/-! law: conditions -/
section GLC
variable {xs : List Int32} {w0 : sx_W} {d : Nat} {Q : gx_Q} {m : gx_M}
theorem lq_F.at12 {m0 m : gx_M} {a : Nat} (h : lq_F m0 a m) : m 86 12 = m0 86 12 := h.2 86 12 (fun q hq => by
  simp only [lq_md, List.mem_cons, List.not_mem_nil, or_false] at hq
  rcases hq with rfl | rfl | rfl | rfl <;> simp)
/-- what waits in a condition: its first bracket below, no sign of a sum -/
def lq_WS (w : Nat → Int) (W : Nat) : Prop := 1 ≤ W ∧ w 0 / 1048576 = 13 ∧ ∀ i, i < W → ¬ lq_bn (w i)
theorem lq_WS.pop {w : Nat → Int} {W : Nat} (h : lq_WS w (W + 1)) (hW : w W / 1048576 ≠ 13) : lq_WS w W := by
  obtain ⟨h1, h2, h3⟩ := h
  refine ⟨?_, h2, fun i hi => h3 i (by omega)⟩
  by_cases e : W = 0
  · rw [e] at hW; exact absurd h2 hW
  · omega
theorem lq_WS.push {w : Nat → Int} {W : Nat} {y : Int} (h : lq_WS w W) (hy : ¬ lq_bn y) : lq_WS (lf_up w W y) (W + 1) := by
  obtain ⟨h1, h2, h3⟩ := h
  refine ⟨by omega, by rw [lf_up_ne (by omega)]; exact h2, fun i hi => ?_⟩
  by_cases e : i = W
  · rw [e, lf_up_eq]; exact hy
  · rw [lf_up_ne e]; exact h3 i (by omega)
def lq_K (m0 : gx_M) (N : Int) (a h C W : Nat) (m : gx_M) : Prop := lq_M m0 N a 0 C W m ∧ lq_T (m 91) (m 92) a C W h ∧ lq_WS (m 92) W
theorem gc_ends {m0 : gx_M} {N : Int} {a : Nat} : ∀ (W C : Nat) (m : gx_M), lq_K m0 N a 1 C W m → (∀ C' W' m', lq_K m0 N a 1 C' W' m' → m' 86 5 = m 86 5 → Q none m') → gx_to xs w0 (d + 1) yp_m186 0 [(0, .inr 86)] [] m Q := by
  intro W
  induction W with
  | zero => intro C m hK; exact absurd hK.2.2.1 (by omega)
  | succ W ih =>
    intro C m hK hQ
    obtain ⟨hM, hT, hS⟩ := hK
    have ht := lq_top_S m W
    refine gt186_0 (gc_top hM (gt186_4 (fun _ => hQ C (W + 1) m ⟨hM, hT, hS⟩ rfl) (fun c => gc_note hM (by omega) (by omega) (gt186_16 (by have := hM.C250; have := hM.2.2.2.1; show 0 ≤ m 86 11 ∧ m 86 11 ≤ 250; omega) ?_))))
    rw [ht] at c
    have e11 : lq_note m C (1048576 * 10 + 0) 86 11 - 1 = (W : Int) := by
      show m 86 11 - 1 = _
      have := hM.2.2.2.1
      omega
    rw [e11]
    have hM2 := lq_np_M (x := 1048576 * 10 + 0) hM (by omega) (if_pos (.inr c))
    have hM3 := lq_86_9 (v := gx_w (lq_note m C (1048576 * 10 + 0) 86 9 - 1)) hM2 (gx_w_bd _)
    have e91 : gx_u (gx_u (lq_note m C (1048576 * 10 + 0)) 86 11 (W : Int)) 86 9 (gx_w (lq_note m C (1048576 * 10 + 0) 86 9 - 1)) 91 = lf_up (m 91) C (1048576 * 10 + 0) := by rw [gx_u_off (by decide), gx_u_off (by decide), lq_note91]
    have e92 : gx_u (gx_u (lq_note m C (1048576 * 10 + 0)) 86 11 (W : Int)) 86 9 (gx_w (lq_note m C (1048576 * 10 + 0) 86 9 - 1)) 92 = m 92 := by rw [gx_u_off (by decide), gx_u_off (by decide), lq_note92]
    have hT2 : lq_T (lf_up (m 91) C (1048576 * 10 + 0)) (m 92) a (C + 1) W 1 := by
      refine lq_T_pop (lq_T_em hT ⟨by omega, ?_, fun _ => by omega, fun _ => by omega, fun _ => ⟨by omega, rfl⟩, fun _ _ _ => by omega⟩) (fun hj => ?_)
      · unfold lq_jp; omega
      · unfold lq_jp at hj; omega
    exact ih (C + 1) _ ⟨hM3, by rw [e91, e92]; exact hT2, by rw [e92]; exact hS.pop (by omega)⟩ (fun C' W' m' g1 g2 => hQ C' W' m' g1 g2)
theorem lq_patch_M {m0 : gx_M} {N : Int} {a C W k : Nat} {x : Int} (hM : lq_M m0 N a 0 C (W + 1) m) (hk : a ≤ k) (hkC : k < C) (hx : 0 ≤ x ∧ x ≤ 2147483647) : lq_M m0 N a 0 C W (gx_u (gx_u m 91 k x) 86 11 (W : Int)) := by
  have hb2 := hM.C250
  obtain ⟨hF, hN, hC, hW, hWP, hE, hw, ha⟩ := hM
  have hce : lq_ce (m 92) (W + 1) = lq_ce (m 92) W + lq_1e (m 92 W) := rfl
  have e92 : gx_u (gx_u m 91 k x) 86 11 (W : Int) 92 = m 92 := by rw [gx_u_off (by decide), gx_u_off (by decide)]
  refine ⟨(hF.w91 hk (by omega) (by omega) hx.2).w86 (by omega) (by omega) (by omega), hN, hC, gx_u_self, ?_, ?_, fun i hi => ?_, ha⟩
  · show (W : Int) ≤ m 86 5
    omega
  · rw [e92]
    show ((C + lq_ce (m 92) W + 0 : Nat) : Int) ≤ m 86 5
    omega
  · rw [e92]; exact hw i (by omega)
theorem gc_lands {m0 : gx_M} {N : Int} {a : Nat} {all : Int} {C : Nat} : ∀ (W : Nat) (m : gx_M), lq_K m0 N a 1 C W m → (∀ W' m', lq_K m0 N a 1 C W' m' → m' 86 5 = m 86 5 → (all ≠ 0 → ¬ lq_jp (m' 92 (W' - 1))) → Q none m') → gx_to xs w0 (d + 1) yp_m187 0 [(0, .inr 86), (1, .inl all)] [] m Q := by
  intro W
  induction W with
  | zero => intro m hK; exact absurd hK.2.2.1 (by omega)
  | succ W ih =>
    intro m hK hQ
    obtain ⟨hM, hT, hS⟩ := hK
    have ht := lq_top_S m W
    have hb := hM.C250
    have hC := hM.2.2.1
    have hW := hM.2.2.2.1
    have hpatch : lq_jp (m 92 W) → (0 ≤ Int.tmod (m 92 (m 86 11 - 1).toNat) 1048576 ∧ Int.tmod (m 92 (m 86 11 - 1).toNat) 1048576 < 260) ∧ gx_to xs w0 (d + 1) yp_m187 0 [(0, .inr 86), (1, .inl all)] [] (gx_u (gx_u m 91 (Int.tmod (m 92 ((m 86 11) - 1).toNat) 1048576).toNat (gx_w ((gx_w (1048576 * (gx_w (Int.tdiv (m 91 (Int.tmod (m 92 ((m 86 11) - 1).toNat) 1048576).toNat) 1048576)))) + (m 86 10)))) 86 11 ((m 86 11) - 1)) Q := fun hj => by
      obtain ⟨k, k1, k2, k3, k4, k5, hT2⟩ := lq_T_land hT hj (by omega)
      have hw := hM.2.2.2.2.2.2.1 W (by omega)
      have e1 : Int.tmod (m 92 (m 86 11 - 1).toNat) 1048576 = (k : Int) := by
        rw [hW, show (((W + 1 : Nat) : Int) - 1).toNat = W by omega, Int.tmod_eq_emod_of_nonneg hw, k1]
      have k5' := k5
      unfold lq_jp at k5'
      have e2 : gx_w ((gx_w (1048576 * (gx_w (Int.tdiv (m 91 k) 1048576)))) + (m 86 10)) = 1048576 * (m 91 k / 1048576) + (C : Int) := by
        rw [Int.tdiv_eq_ediv_of_nonneg k4, gx_w_id (x := m 91 k / 1048576) (by omega) (by omega), gx_w_id (x := 1048576 * (m 91 k / 1048576)) (by omega) (by omega), hC, gx_w_id (by omega) (by omega)]
      rw [e1]
      refine ⟨by omega, ?_⟩
      rw [Int.toNat_natCast, e2, hW, show ((W + 1 : Nat) : Int) - 1 = (W : Int) by omega]
      have hM2 := lq_patch_M (x := 1048576 * (m 91 k / 1048576) + (C : Int)) hM k2 k3 (by omega)
      have e91 : gx_u (gx_u m 91 k (1048576 * (m 91 k / 1048576) + (C : Int))) 86 11 (W : Int) 91 = lf_up (m 91) k (1048576 * (m 91 k / 1048576) + (C : Int)) := by rw [gx_u_off (by decide), gx_u_row]
      have e92 : gx_u (gx_u m 91 k (1048576 * (m 91 k / 1048576) + (C : Int))) 86 11 (W : Int) 92 = m 92 := by rw [gx_u_off (by decide), gx_u_off (by decide)]
      exact ih _ ⟨hM2, by rw [e91, e92]; exact hT2, by rw [e92]; exact hS.pop (by unfold lq_jp at hj; omega)⟩ (fun W' m' g1 g2 g3 => hQ W' m' g1 g2 g3)
    have hstop : (all ≠ 0 → ¬ lq_jp (m 92 W)) → Q none m := fun h => hQ (W + 1) m ⟨hM, hT, hS⟩ rfl h
    refine gt187_0 (gc_top hM (gt187_4 (by omega) (by omega) (fun _ => by omega) (fun c => ?_) (fun c => ?_) (fun c => ?_) (fun _ c => hstop (fun h => absurd c h)) (fun c call => gc_top hM (gt187_17 (by omega) (by omega) (fun c' => hstop (fun _ => ?_)) (fun _ => by omega) (fun c' => ?_) (fun c' => ?_) (fun c' => ?_)))))
    · exact (hpatch (.inl (by omega))).1
    · exact (hpatch (.inl (by omega))).1
    · exact (hpatch (.inl (by omega))).2
    · unfold lq_jp; omega
    · exact (hpatch (.inr (by omega))).1
    · exact (hpatch (.inr (by omega))).1
    · exact (hpatch (.inr (by omega))).2
theorem gc_jumps {m0 : gx_M} {N : Int} {a C W : Nat} {o : Int} (hK : lq_K m0 N a 1 C W m) (hlt : m 86 5 < m 86 6) (ho : 11 ≤ o ∧ o ≤ 12) (hQ : ∀ m', lq_K m0 N a 0 (C + 1) (W + 1) m' → m' 86 5 = m 86 5 + 1 → Q none m') : gx_to xs w0 (d + 1) yp_m188 0 [(0, .inr 86), (1, .inl o)] [] m Q := by
  obtain ⟨hM, hT, hS⟩ := hK
  have hb := hM.C250
  have hP := hM.P0
  obtain ⟨hF, hN, hC, hW, hWP, hE, hw, ha⟩ := hM
  refine gt188_0 ho (by omega) (by omega) ?_
  rw [hW, hC, Int.toNat_natCast]
  refine gt178_0 (by omega) (by omega) (by show 0 ≤ m 86 10 ∧ m 86 10 ≤ 250; omega) ?_
  have e10 : gx_u (gx_u m 92 W (1048576 * o + (C : Int))) 86 11 ((W : Int) + 1) 86 10 = (C : Int) := hC
  rw [e10, Int.toNat_natCast]
  have hF2 : lq_F m0 a (gx_u (gx_u (gx_u (gx_u m 92 W (1048576 * o + (C : Int))) 86 11 ((W : Int) + 1)) 91 C (1048576 * o + 0)) 86 10 ((C : Int) + 1)) := (((hF.w92 (by omega) (by omega) (by omega)).w86 (by omega) (by omega) (by omega)).w91 ha (by omega) (by omega) (by omega)).w86 (by omega) (by omega) (by omega)
  refine gt188_34 hF2.1 ?_
  have e5 : gx_u (gx_u (gx_u (gx_u m 92 W (1048576 * o + (C : Int))) 86 11 ((W : Int) + 1)) 91 C (1048576 * o + 0)) 86 10 ((C : Int) + 1) 86 5 = m 86 5 := rfl
  rw [e5]
  have e91 : gx_u (gx_u (gx_u (gx_u (gx_u m 92 W (1048576 * o + (C : Int))) 86 11 ((W : Int) + 1)) 91 C (1048576 * o + 0)) 86 10 ((C : Int) + 1)) 86 5 (m 86 5 + 1) 91 = lf_up (m 91) C (1048576 * o + 0) := by
    rw [gx_u_off (by decide), gx_u_off (by decide), gx_u_row, gx_u_off (by decide), gx_u_off (by decide)]
  have e92 : gx_u (gx_u (gx_u (gx_u (gx_u m 92 W (1048576 * o + (C : Int))) 86 11 ((W : Int) + 1)) 91 C (1048576 * o + 0)) 86 10 ((C : Int) + 1)) 86 5 (m 86 5 + 1) 92 = lf_up (m 92) W (1048576 * o + (C : Int)) := by
    rw [gx_u_off (by decide), gx_u_off (by decide), gx_u_off (by decide), gx_u_off (by decide), gx_u_row]
  have hce : lq_ce (lf_up (m 92) W (1048576 * o + (C : Int))) (W + 1) = lq_ce (m 92) W := by
    rw [lq_ce_up]
    have : lq_1e (1048576 * o + (C : Int)) = 0 := if_neg (by omega)
    omega
  refine hQ _ ⟨⟨hF2.w5 (by omega) (by omega), ⟨hN.1, hN.2.1, by rw [gx_u_self]; omega⟩, ?_, ?_, by rw [gx_u_self]; omega, by rw [gx_u_self, e92, hce]; omega, fun i hi => ?_, by omega⟩, ?_, ?_⟩ gx_u_self
  · show (C : Int) + 1 = _
    omega
  · show (W : Int) + 1 = _
    omega
  · rw [e92]
    by_cases e : i = W
    · rw [e, lf_up_eq]; omega
    · rw [lf_up_ne e]; exact hw i (by omega)
  · rw [e91, e92]
    exact lq_T_jump hT (by omega) (by unfold lq_jp; omega) (by unfold lq_jp; omega) (by omega)
  · rw [e92]
    exact hS.push (by unfold lq_bn; omega)
theorem gc_compared {m0 : gx_M} {N : Int} {a C W : Nat} (hK : lq_K m0 N a 0 C W m) (hQ0 : ∀ m', lq_F m0 a m' → Q (some 0) m') (hQ : ∀ C' W' m', lq_K m0 N a 1 C' W' m' → m 86 5 ≤ m' 86 5 → Q (some 1) m') : gx_to xs w0 (d + 5) yp_m185 0 [(0, .inr 86)] [] m Q := by
  obtain ⟨hM, hT, hS⟩ := hK
  refine gt185_0 (gc_sum (d := d) hM hT hS.2.2 (fun m' h => gt185_4 (fun e => absurd rfl e) (fun _ => hQ0 m' h)) (fun C1 m1 g1 g2 g3 g4 => gt185_4 (fun _ => ?_) (fun e => by omega)))
  have hS1 : lq_WS (m1 92) W := ⟨hS.1, by rw [g3 0 (by have := hS.1; omega)]; exact hS.2.1, fun i hi => by rw [g3 i hi]; exact hS.2.2 i hi⟩
  have hsec : ∀ how : Int, 7 ≤ how → how ≤ 9 → lq_here m1 ≠ -1 → gx_to xs w0 (d + 4) yp_m173 0 [(0, .inr 86)] [] (gx_u m1 86 5 (m1 86 5 + 1)) (fun r m' => gx_to xs w0 (d + 5) yp_m185 82 [(0, .inr 86), (1, .inl how)] (gx_rs r ++ []) m' Q) := fun how h1 h2 hne => by
    have hlt := lq_here_lt hne
    have hM1 := lq_step_M (e' := 1) g1 hlt (by omega)
    have e91 : gx_u m1 86 5 (m1 86 5 + 1) 91 = m1 91 := gx_u_off (by decide)
    have e92 : gx_u m1 86 5 (m1 86 5 + 1) 92 = m1 92 := gx_u_off (by decide)
    refine gc_sum (d := d) hM1 (by rw [e91, e92]; exact g2) (by rw [e92]; exact hS1.2.2) (fun m' h => gt185_82 (fun e => absurd rfl e) (fun _ => hQ0 m' h)) (fun C2 m2 k1 k2 k3 k4 => gt185_82 (fun _ => gc_note k1 (by omega) (by omega) (gt185_93 ?_)) (fun e => by omega))
    have hE := k1.2.2.2.2.2.1
    have hM3 := lq_note_M (x := 1048576 * how + 0) (e' := 0) k1 (by omega) (by omega)
    have hS2 : lq_WS (m2 92) W := ⟨hS1.1, by rw [k3 0 (by have := hS.1; omega), e92]; exact hS1.2.1, fun i hi => by rw [k3 i hi, e92]; exact hS1.2.2 i hi⟩
    rw [gx_u_self] at k4
    refine gc_ends (d := d + 3) W (C2 + 1) _ ⟨hM3, ?_, by rw [lq_note92]; exact hS2⟩ (fun C' W' m' j1 j2 => gt185_97 (hQ C' W' m' j1 (by rw [j2]; show m 86 5 ≤ m2 86 5; omega)))
    rw [lq_note91, lq_note92]
    exact lq_T_em k2 ⟨by omega, by unfold lq_jp; omega, fun _ => by omega, fun _ => by omega, fun _ => by omega, fun _ _ _ => by omega⟩
  exact gc_here g1.1.1 (gt185_13 g1.1.1 (fun _ => gc_here g1.1.1 (gt185_27 g1.1.1 (fun _ => gc_here g1.1.1 (gt185_41 g1.1.1 (fun _ => gc_wrong g1.1 (fun m' h => gt185_67 (.inl rfl) (hQ0 m' h))) (fun c => hsec 9 (by omega) (by omega) (by omega)))) (fun c => hsec 8 (by omega) (by omega) (by omega)))) (fun c => hsec 7 (by omega) (by omega) (by omega)))
theorem gl_cond {m0 : gx_M} {N : Int} {a : Nat} (hQ0 : ∀ m', lq_F m0 a m' → Q (some 0) m') (hQ : ∀ C' m', lq_M m0 N a 0 C' 0 m' → lq_T (m' 91) (m' 92) a C' 0 1 → Q (some 1) m') : ∀ (j : Nat), (∀ (C W : Nat) (m : gx_M), N - m 86 5 ≤ j → lq_K m0 N a 0 C W m → gx_to xs w0 (d + 6) yp_m184 40 [(0, .inr 86)] [] m Q) ∧ (∀ (C W : Nat) (m : gx_M), N - m 86 5 ≤ j → lq_K m0 N a 1 C W m → gx_to xs w0 (d + 6) yp_m184 92 [(0, .inr 86)] [] m Q) := by
  intro j
  induction j using Nat.strongRecOn with
  | _ j ih =>
    -- behind a comparison
    have h92 : ∀ (C W : Nat) (m : gx_M), N - m 86 5 ≤ j → lq_K m0 N a 1 C W m → gx_to xs w0 (d + 6) yp_m184 92 [(0, .inr 86)] [] m Q := by
      intro C W m hj hK
      have hM := hK.1
      have hN := hM.2.1
      have hP := hM.P0
      have hjmp : lq_here m ≠ -1 → ∀ s1 : Int, gx_to xs w0 (d + 6) yp_m184 185 [(0, .inr 86)] [.inl s1, .inr 86] m Q := fun hne s1 => by
        have hlt := lq_here_lt hne
        have hgo : ∀ all : Int, gx_to xs w0 (d + 5) yp_m187 0 [(0, .inr 86), (1, .inl all)] [] m (fun r m' => gx_to xs w0 (d + 6) yp_m184 198 [(0, .inr 86)] (gx_rs r ++ []) m' Q) := fun all =>
          gc_lands (d := d + 4) W m hK (fun W' m' g1 g2 g3 => gt184_198 (gc_here g1.1.1.1 (by
            have hN' := g1.1.2.1
            have hgo2 : ∀ o : Int, 11 ≤ o → o ≤ 12 → gx_to xs w0 (d + 5) yp_m188 0 [(0, .inr 86), (1, .inl o)] [] m' (fun r m2 => gx_to xs w0 (d + 6) yp_m184 218 [(0, .inr 86)] (gx_rs r ++ []) m2 Q) := fun o o1 o2 =>
              gc_jumps (d := d + 4) g1 (by omega) ⟨o1, o2⟩ (fun m2 k1 k2 => gt184_218 ((ih (N - m2 86 5).toNat (by have := k1.1.2.1; omega)).1 _ _ m2 (by have := k1.1.2.1; omega) k1))
            exact gt184_203 (fun _ => hgo2 12 (by omega) (by omega)) (fun _ => hgo2 11 (by omega) (by omega)))))
        exact gt184_185 (fun _ => hgo 0) (fun _ => hgo 1)
      refine gt184_92 (gc_here hM.1.1 (gt184_96 (fun _ => gc_here hM.1.1 (gt184_156 (fun c => gc_here hM.1.1 (hjmp (by omega) _)) (fun _ => gc_here hM.1.1 (gt184_165 hM.1.1 (fun c => gc_here hM.1.1 (hjmp (by omega) _)) (fun _ => gc_wrong hM.1 (fun m' h => gt184_179 (.inl rfl) (hQ0 m' h))))))) (fun c => ?_)))
      have hlt := lq_here_lt (m := m) (by omega)
      refine gc_lands (d := d + 4) W m hK (fun W' m' g1 g2 g3 => ?_)
      have hb' := g1.1.C250
      have e11 := g1.1.2.2.2.1
      have hN' := g1.1.2.1
      have hE := g1.1.2.2.2.2.2.1
      obtain ⟨W2, rfl⟩ : ∃ k, W' = k + 1 := ⟨W' - 1, by have := g1.2.2.1; omega⟩
      have hnj : ¬ lq_jp (m' 92 W2) := g3 (by decide)
      have hce : lq_ce (m' 92) (W2 + 1) = lq_ce (m' 92) W2 + lq_1e (m' 92 W2) := rfl
      have hM2 := lq_pop_M (e' := 0) g1.1 (by omega)
      have hM3 := lq_86_9 (v := gx_w (m' 86 9 - 1)) hM2 (gx_w_bd _)
      have hM4 := lq_step_M (e' := 0) hM3 (by show m' 86 5 < m' 86 6; omega) (by omega)
      have e91 : gx_u (gx_u (gx_u m' 86 11 (W2 : Int)) 86 9 (gx_w (m' 86 9 - 1))) 86 5 (m' 86 5 + 1) 91 = m' 91 := by rw [gx_u_off (by decide), gx_u_off (by decide), gx_u_off (by decide)]
      have e92 : gx_u (gx_u (gx_u m' 86 11 (W2 : Int)) 86 9 (gx_w (m' 86 9 - 1))) 86 5 (m' 86 5 + 1) 92 = m' 92 := by rw [gx_u_off (by decide), gx_u_off (by decide), gx_u_off (by decide)]
      have e5 : gx_u (gx_u (gx_u m' 86 11 (W2 : Int)) 86 9 (gx_w (m' 86 9 - 1))) 86 5 (m' 86 5 + 1) 86 5 = m' 86 5 + 1 := gx_u_self
      have hT2 := lq_T_pop g1.2.1 hnj
      have e1 : m' 86 11 - 1 = (W2 : Int) := by omega
      refine gt184_106 g1.1.1.1 (by omega) (fun c1 => ?_) (fun c1 => ?_)
      · rw [e1] at c1 ⊢
        refine gc_ends (d := d + 4) W2 C _ ⟨hM4, by rw [e91, e92]; exact hT2, by rw [e92]; exact ⟨by omega, g1.2.2.2.1, fun i hi => g1.2.2.2.2 i (by omega)⟩⟩ (fun C3 W3 m3 k1 k2 => gt184_149 ?_)
        rw [e5] at k2
        exact (ih (N - m3 86 5).toNat (by have := k1.1.2.1; omega)).2 _ _ m3 (by have := k1.1.2.1; omega) k1
      · rw [e1] at c1 ⊢
        have ew : W2 = 0 := by omega
        subst ew
        exact hQ C _ hM4 (by show lq_T (gx_u (gx_u (gx_u m' 86 11 ((0 : Nat) : Int)) 86 9 (gx_w (m' 86 9 - 1))) 86 5 (m' 86 5 + 1) 91) (gx_u (gx_u (gx_u m' 86 11 ((0 : Nat) : Int)) 86 9 (gx_w (m' 86 9 - 1))) 86 5 (m' 86 5 + 1) 92) a C 0 1; rw [e91, e92]; exact hT2)
    refine ⟨fun C W m hj hK => ?_, h92⟩
    have hM := hK.1
    have hN := hM.2.1
    have hP := hM.P0
    have hopen : lq_here m ≠ -1 → ∀ s1 : Int, gx_to xs w0 (d + 6) yp_m184 63 [(0, .inr 86)] [.inl s1, .inr 86] m Q := fun hne s1 => by
      have hlt := lq_here_lt hne
      have hgo : ∀ o : Int, o = 13 ∨ o = 10 → gx_to xs w0 (d + 5) yp_m175 0 [(0, .inr 86), (1, .inl o)] [] m (fun r m' => gx_to xs w0 (d + 6) yp_m184 78 [(0, .inr 86)] (gx_rs r ++ []) m' Q) := fun o ho =>
        gc_opens (d := d + 4) hM hlt (by omega) (fun m' h => gt184_78 (fun e => absurd rfl e) (fun _ => hQ0 m' h)) (fun m' g1 g2 g3 g4 => gt184_78 (fun _ => (ih (N - m' 86 5).toNat (by have := g1.2.1; omega)).1 _ _ m' (by have := g1.2.1; omega) ⟨g1, by rw [g2, g3]; exact lq_T_push hK.2.1 (by unfold lq_jp; omega), by rw [g3]; exact hK.2.2.push (by unfold lq_bn; omega)⟩) (fun e => by omega))
      exact gt184_63 (fun _ => hgo 13 (.inl rfl)) (fun _ => hgo 10 (.inr rfl))
    exact gt184_40 (gc_here hM.1.1 (gt184_44 (fun c => gc_here hM.1.1 (hopen (by omega) _)) (fun _ => gc_here hM.1.1 (gt184_53 (fun _ => gc_compared (d := d) hK (fun m' h => gt184_87 (fun e => absurd rfl e) (fun _ => hQ0 m' h)) (fun C' W' m' g1 g2 => gt184_87 (fun _ => h92 C' W' m' (by omega) g1) (fun e => by omega))) (fun c => gc_here hM.1.1 (hopen (by omega) _))))))
theorem gc_cond {N : Int} {C : Nat} (hI : gx_I m) (hN : m 86 6 = N ∧ N ≤ 240 ∧ m 86 5 ≤ N) (hC : m 86 10 = (C : Int)) (hCP : (C : Int) ≤ m 86 5) (hQ0 : ∀ m', lq_F m C m' → Q (some 0) m') (hQ : ∀ C' m', lq_M m N C 0 C' 0 m' → lq_T (m' 91) (m' 92) C C' 0 1 → Q (some 1) m') : gx_to xs w0 (d + 6) yp_m184 0 [(0, .inr 86)] [] m Q := by
  have hF : lq_F m C m := ⟨hI, gx_fw.rf⟩
  have hF2 : lq_F m C (gx_u (gx_u m 86 9 0) 86 11 0) := (hF.w86 (by omega) (by omega) (by omega)).w86 (by omega) (by omega) (by omega)
  have e91 : gx_u (gx_u m 86 9 0) 86 11 0 91 = m 91 := by rw [gx_u_off (by decide), gx_u_off (by decide)]
  have e92 : gx_u (gx_u m 86 9 0) 86 11 0 92 = m 92 := by rw [gx_u_off (by decide), gx_u_off (by decide)]
  have hM : lq_M m N C 0 C 0 (gx_u (gx_u m 86 9 0) 86 11 0) := ⟨hF2, hN, hC, gx_u_self, by show ((0 : Nat) : Int) ≤ m 86 5; omega, by show ((C + 0 + 0 : Nat) : Int) ≤ m 86 5; omega, fun i hi => absurd hi (Nat.not_lt_zero _), Nat.le_refl _⟩
  refine gt184_0 (gc_here hI (gt184_4 hI (fun c => ?_) (fun _ => gc_wrong hF (fun m' h => gt184_18 (.inl rfl) (hQ0 m' h)))))
  have hlt := lq_here_lt (m := m) (by omega)
  refine gc_opens (d := d + 4) hM hlt (by omega) (fun m' h => gt184_35 (fun e => absurd rfl e) (fun _ => hQ0 m' h)) (fun m' g1 g2 g3 g4 => gt184_35 (fun _ => ?_) (fun e => by omega))
  refine (gl_cond (d := d) hQ0 hQ (N - m' 86 5).toNat).1 C 1 m' (by omega) ⟨g1, ?_, ?_⟩
  · rw [g2, g3]
    exact lq_T_push (lq_T_0 _ _ _) (by unfold lq_jp; omega)
  · rw [g3]
    refine ⟨Nat.le_refl _, ?_, fun i hi => ?_⟩
    · rw [lf_up_eq]; omega
    · have e : i = 0 := by omega
      rw [e, lf_up_eq]
      unfold lq_bn; omega
end GLC
end
section
/-! law: clauses, and the law itself -/
theorem gx_wf_b {r r' : Nat → Int} {a b : Int} (hr : ∀ k : Nat, (k : Int) < b → r' k = r k) (h : gx_wf r a b) : gx_wf r' a b := by
  obtain ⟨h1, h2, h3, H, h4, h5⟩ := h
  refine ⟨h1, h2, h3, H, h4, fun k k1 k2 => ?_⟩
  rw [hr k (by omega)]
  exact h5 k k1 k2
def lq_lw : bx_M := [(86, 5, 6), (86, 7, 13), (91, 0, 260), (92, 0, 260), (93, 0, 16), (94, 0, 16), (95, 0, 16), (96, 0, 16)]
def lq_G (m0 m : gx_M) : Prop := gx_I m ∧ gx_fw lq_lw m0 m
theorem lq_F.row {m0 m : gx_M} {a : Nat} (h : lq_F m0 a m) {c : Nat} (h1 : c ≠ 86) (h2 : c ≠ 91) (h3 : c ≠ 92) : m c = m0 c := h.2.row (fun q hq e => by
  simp only [lq_md, List.mem_cons, List.not_mem_nil, or_false] at hq
  rcases hq with rfl | rfl | rfl | rfl
  · exact h1 e.symm
  · exact h1 e.symm
  · exact h2 e.symm
  · exact h3 e.symm)
theorem lq_F.at91 {m0 m : gx_M} {a : Nat} (h : lq_F m0 a m) {k : Nat} (hk : k < a) : m 91 k = m0 91 k := h.2 91 k (fun q hq => by
  simp only [lq_md, List.mem_cons, List.not_mem_nil, or_false] at hq
  rcases hq with rfl | rfl | rfl | rfl <;> simp <;> omega)
theorem lq_G.F {m0 m1 m : gx_M} {a : Nat} (h : lq_G m0 m1) (h' : lq_F m1 a m) : lq_G m0 m := ⟨h'.1, h.2.tr (h'.2.sub (fun q hq => by
  simp only [lq_md, List.mem_cons, List.not_mem_nil, or_false] at hq
  rcases hq with rfl | rfl | rfl | rfl
  · exact ⟨(86, 5, 6), by simp [lq_lw], rfl, Nat.le_refl _, Nat.le_refl _⟩
  · exact ⟨(86, 7, 13), by simp [lq_lw], rfl, Nat.le_refl _, by decide⟩
  · exact ⟨(91, 0, 260), by simp [lq_lw], rfl, Nat.zero_le _, Nat.le_refl _⟩
  · exact ⟨(92, 0, 260), by simp [lq_lw], rfl, Nat.le_refl _, Nat.le_refl _⟩))⟩
theorem lq_G.w86 {m0 m : gx_M} (h : lq_G m0 m) {k : Nat} {v : Int} (hk : k = 7 ∨ k = 9 ∨ k = 11 ∨ k = 12) (h1 : -2147483648 ≤ v) (h2 : v ≤ 2147483647) : lq_G m0 (gx_u m 86 k v) := by
  have hc : gx_cow 86 7 12 (-2147483648) 2147483647 = true := by decide +kernel
  have := gx_I_w h.1 86 (z := (k : Int)) (v := v) 7 12 _ _ hc (by omega) (by omega) h1 h2
  rw [Int.toNat_natCast] at this
  exact ⟨this, h.2.w ⟨(86, 7, 13), by simp [lq_lw], rfl, by show 7 ≤ k; omega, by show k < 13; omega⟩⟩
theorem lq_G.w5 {m0 m : gx_M} (h : lq_G m0 m) {v : Int} (h1 : 0 ≤ v) (h2 : v ≤ 260) : lq_G m0 (gx_u m 86 5 v) :=
  ⟨gx_I_w h.1 86 (z := 5) (v := v) 5 5 0 260 (by decide +kernel) (by omega) (by omega) h1 h2, h.2.w ⟨(86, 5, 6), by simp [lq_lw], rfl, Nat.le_refl _, by decide⟩⟩
theorem lq_G.w9 {m0 m : gx_M} (h : lq_G m0 m) {c k : Nat} {v : Int} (hc : c = 93 ∨ c = 94 ∨ c = 95 ∨ c = 96) (hk : k < 16) (h1 : -2147483648 ≤ v) (h2 : v ≤ 2147483647) : lq_G m0 (gx_u m c k v) := by
  have hcov : gx_cow c 0 15 (-2147483648) 2147483647 = true := by rcases hc with rfl | rfl | rfl | rfl <;> decide +kernel
  have := gx_I_w h.1 c (z := (k : Int)) (v := v) 0 15 _ _ hcov (by omega) (by omega) h1 h2
  rw [Int.toNat_natCast] at this
  exact ⟨this, h.2.w ⟨(c, 0, 16), by rcases hc with rfl | rfl | rfl | rfl <;> simp [lq_lw], rfl, Nat.zero_le _, hk⟩⟩
/-- the clauses that are read so far are well formed -/
def lq_cl (m : gx_M) (S C : Nat) : Prop := ∀ q : Nat, q < S → gx_wf (m 91) (m 94 q) (m 95 q) ∧ gx_wf (m 91) (m 95 q) (m 96 q) ∧ m 96 q ≤ (C : Int)
def lq_L (m0 : gx_M) (N : Int) (S C : Nat) (m : gx_M) : Prop := lq_G m0 m ∧ (m 86 6 = N ∧ N ≤ 240 ∧ m 86 5 ≤ N) ∧ m 86 10 = (C : Int) ∧ (C : Int) ≤ m 86 5 ∧ m 86 12 = (S : Int) ∧ S ≤ 16 ∧ lq_cl m S C
section GLW
variable {xs : List Int32} {w0 : sx_W} {d : Nat} {Q : gx_Q} {m : gx_M}
theorem gc_cl_end {m0 m3 : gx_M} {N : Int} {S C C2 : Nat} (hL : lq_L m0 N S C m) (hS : S < 16) (hG : lq_G m0 m3) (hN : m3 86 6 = N ∧ N ≤ 240 ∧ m3 86 5 ≤ N) (hC2 : m3 86 10 = (C2 : Int)) (hCP : (C2 : Int) ≤ m3 86 5) (h12 : m3 86 12 = (S : Int)) (h94 : m3 94 = lf_up (m 94) S (C : Int)) (h95 : m3 95 = lf_up (m 95) S (C2 : Int)) (h96 : m3 96 = m 96) (h91 : ∀ k : Nat, k < C → m3 91 k = m 91 k) (hwf : gx_wf (m3 91) (C : Int) (C2 : Int)) (hle : C ≤ C2)
    (hQ0 : ∀ m', lq_G m0 m' → Q (some 0) m') (hQ : ∀ C' m', lq_L m0 N (S + 1) C' m' → Q (some 1) m') : gx_to xs w0 (d + 6) yp_m184 0 [(0, .inr 86)] [] m3 (fun r m' => gx_to xs w0 (d + 7) yp_m169 116 [(0, .inr 86)] (gx_rs r ++ []) m' Q) := by
  refine gc_cond hG.1 hN hC2 hCP (fun m' h => gt169_116 (by have := h.at12; omega) (fun e => absurd rfl e) (fun e => absurd rfl e) (fun _ => hQ0 m' (hG.F h))) (fun C4 m4 g1 g2 => ?_)
  have e12 := g1.1.at12
  have hb := g1.C250
  have hP := g1.P0
  have hC4 := g1.2.2.1
  have hE := g1.2.2.2.2.2.1
  refine gt169_116 (by omega) (fun _ => by omega) (fun _ => ?_) (fun e => by omega)
  rw [e12, h12, hC4, Int.toNat_natCast]
  have hG5 := ((hG.F g1.1).w9 (c := 96) (k := S) (v := (C4 : Int)) (by omega) hS (by omega) (by omega)).w86 (k := 12) (v := (S : Int) + 1) (by omega) (by omega) (by omega)
  have hle2 := g2.1
  have r94 : m4 94 = m3 94 := g1.1.row (by decide) (by decide) (by decide)
  have r95 : m4 95 = m3 95 := g1.1.row (by decide) (by decide) (by decide)
  have r96 : m4 96 = m3 96 := g1.1.row (by decide) (by decide) (by decide)
  have f91 : gx_u (gx_u m4 96 S (C4 : Int)) 86 12 ((S : Int) + 1) 91 = m4 91 := by rw [gx_u_off (by decide), gx_u_off (by decide)]
  have f94 : gx_u (gx_u m4 96 S (C4 : Int)) 86 12 ((S : Int) + 1) 94 = lf_up (m 94) S (C : Int) := by rw [gx_u_off (by decide), gx_u_off (by decide), r94, h94]
  have f95 : gx_u (gx_u m4 96 S (C4 : Int)) 86 12 ((S : Int) + 1) 95 = lf_up (m 95) S (C2 : Int) := by rw [gx_u_off (by decide), gx_u_off (by decide), r95, h95]
  have f96 : gx_u (gx_u m4 96 S (C4 : Int)) 86 12 ((S : Int) + 1) 96 = lf_up (m 96) S (C4 : Int) := by rw [gx_u_off (by decide), gx_u_row, r96, h96]
  refine hQ C4 _ ⟨hG5, g1.2.1, hC4, ?_, ?_, by omega, fun q hq => ?_⟩
  · show (C4 : Int) ≤ m4 86 5
    omega
  · show (S : Int) + 1 = _
    omega
  · rw [f91, f94, f95, f96]
    by_cases e : q = S
    · rw [e, lf_up_eq, lf_up_eq, lf_up_eq]
      refine ⟨gx_wf_b (fun k hk => g1.1.at91 (by omega)) hwf, ?_, Int.le_refl _⟩
      exact lq_T_end g2 (by omega)
    · rw [lf_up_ne e, lf_up_ne e, lf_up_ne e]
      obtain ⟨w1, w2, w3⟩ := hL.2.2.2.2.2.2 q (by omega)
      have hq2 := w2.2.1
      have hk : ∀ k : Nat, (k : Int) < (C : Int) → m4 91 k = m 91 k := fun k hk => by rw [g1.1.at91 (by omega), h91 k (by omega)]
      exact ⟨gx_wf_b (fun k hk' => hk k (by omega)) w1, gx_wf_b (fun k hk' => hk k (by omega)) w2, by omega⟩
theorem gc_clause {m0 : gx_M} {N : Int} {S C : Nat} (hL : lq_L m0 N S C m) (hQ0 : ∀ m', lq_G m0 m' → Q (some 0) m') (hQ : ∀ C' m', S < 16 → lq_L m0 N (S + 1) C' m' → Q (some 1) m') : gx_to xs w0 (d + 7) yp_m169 0 [(0, .inr 86)] [] m Q := by
  have hI := hL.1.1
  obtain ⟨hG, hN, hC, hCP, h12, hS16, hcl⟩ := hL
  have hwrong : ∀ {x y : Int} {pc : Nat}, (∀ m', lq_G m0 m' → gx_to xs w0 (d + 7) yp_m169 pc [] [.inl 0] m' Q) → gx_to xs w0 (d + 6) yp_m172 0 [(0, .inr 86), (1, .inl x), (2, .inl y)] [] m (fun r m' => gx_to xs w0 (d + 7) yp_m169 pc [] (gx_rs r ++ []) m' Q) := fun h => gt172_0 (h _ (hG.w86 (by omega) (gx_w_bd _).1 (gx_w_bd _).2))
  have hno : ∀ c : Int, gx_to xs w0 (d + 7) yp_m169 9 [(0, .inr 86), (1, .inl c)] [.inl 0] m Q := fun c => gt169_9 hI (by omega) (fun e => absurd rfl e) (fun e => absurd rfl e) (fun e => absurd rfl e) (fun _ => hwrong (fun m' h => gt169_21 (.inl rfl) (hQ0 m' h)))
  have hyes : ∀ c : Int, c = lq_here m → c ≠ -1 → 0 ≤ c → c ≤ 255 → gx_to xs w0 (d + 7) yp_m169 9 [(0, .inr 86), (1, .inl c)] [.inl 1] m Q := fun c hc hne hc0 hc1 => by
    have hlt := lq_here_lt (m := m) (by omega)
    have hP0 := gx_I_n hI 86 5 0 260 (by decide +kernel)
    refine gt169_9 hI (by omega) (fun _ hs hn => ?_) (fun _ hs hn => ?_) (fun _ _ => hwrong (fun m' h => gt169_40 (.inl rfl) (hQ0 m' h))) (fun e => by omega)
    · have hS : S < 16 := by omega
      rw [h12, hC, Int.toNat_natCast]
      have hG1 := (((((hG.w9 (c := 93) (k := S) (v := c) (by omega) hS (by omega) (by omega)).w5 (v := m 86 5 + 1) (by omega) (by omega)).w9 (c := 94) (k := S) (v := (C : Int)) (by omega) hS (by omega) (by omega)).w86 (k := 9) (v := 0) (by omega) (by omega) (by omega)).w86 (k := 11) (v := 0) (by omega) (by omega) (by omega)).w9 (c := 95) (k := S) (v := (C : Int)) (by omega) hS (by omega) (by omega)
      refine gc_cl_end ⟨hG, hN, hC, hCP, h12, hS16, hcl⟩ hS hG1 ⟨hN.1, hN.2.1, ?_⟩ (C2 := C) hC ?_ h12 ?_ ?_ ?_ ?_ ?_ (Nat.le_refl _) hQ0 (fun C' m' h => hQ C' m' hS h)
      · show m 86 5 + 1 ≤ N; omega
      · show (C : Int) ≤ m 86 5 + 1; omega
      · rw [gx_u_off (by decide), gx_u_off (by decide), gx_u_off (by decide), gx_u_row, gx_u_off (by decide), gx_u_off (by decide)]
      · rw [gx_u_row, gx_u_off (by decide), gx_u_off (by decide), gx_u_off (by decide), gx_u_off (by decide), gx_u_off (by decide)]
      · rw [gx_u_off (by decide), gx_u_off (by decide), gx_u_off (by decide), gx_u_off (by decide), gx_u_off (by decide), gx_u_off (by decide)]
      · intro k hk
        rw [gx_u_off (by decide), gx_u_off (by decide), gx_u_off (by decide), gx_u_off (by decide), gx_u_off (by decide), gx_u_off (by decide)]
      · exact ⟨by omega, Int.le_refl _, by omega, fun _ => 0, rfl, fun k k1 k2 => by omega⟩
    · have hS : S < 16 := by omega
      rw [h12, hC, Int.toNat_natCast]
      have hG1 := ((((hG.w9 (c := 93) (k := S) (v := c) (by omega) hS (by omega) (by omega)).w5 (v := m 86 5 + 1) (by omega) (by omega)).w9 (c := 94) (k := S) (v := (C : Int)) (by omega) hS (by omega) (by omega)).w86 (k := 9) (v := 0) (by omega) (by omega) (by omega)).w86 (k := 11) (v := 0) (by omega) (by omega) (by omega)
      have r91 : gx_u (gx_u (gx_u (gx_u (gx_u m 93 S c) 86 5 (m 86 5 + 1)) 94 S (C : Int)) 86 9 0) 86 11 0 91 = m 91 := by rw [gx_u_off (by decide), gx_u_off (by decide), gx_u_off (by decide), gx_u_off (by decide), gx_u_off (by decide)]
      have r94 : gx_u (gx_u (gx_u (gx_u (gx_u m 93 S c) 86 5 (m 86 5 + 1)) 94 S (C : Int)) 86 9 0) 86 11 0 94 = lf_up (m 94) S (C : Int) := by rw [gx_u_off (by decide), gx_u_off (by decide), gx_u_row, gx_u_off (by decide), gx_u_off (by decide)]
      have r95 : gx_u (gx_u (gx_u (gx_u (gx_u m 93 S c) 86 5 (m 86 5 + 1)) 94 S (C : Int)) 86 9 0) 86 11 0 95 = m 95 := by rw [gx_u_off (by decide), gx_u_off (by decide), gx_u_off (by decide), gx_u_off (by decide), gx_u_off (by decide)]
      have r96 : gx_u (gx_u (gx_u (gx_u (gx_u m 93 S c) 86 5 (m 86 5 + 1)) 94 S (C : Int)) 86 9 0) 86 11 0 96 = m 96 := by rw [gx_u_off (by decide), gx_u_off (by decide), gx_u_off (by decide), gx_u_off (by decide), gx_u_off (by decide)]
      have h12' : gx_u (gx_u (gx_u (gx_u (gx_u m 93 S c) 86 5 (m 86 5 + 1)) 94 S (C : Int)) 86 9 0) 86 11 0 86 12 = (S : Int) := h12
      have h6' : gx_u (gx_u (gx_u (gx_u (gx_u m 93 S c) 86 5 (m 86 5 + 1)) 94 S (C : Int)) 86 9 0) 86 11 0 86 6 = N := hN.1
      have h5' : gx_u (gx_u (gx_u (gx_u (gx_u m 93 S c) 86 5 (m 86 5 + 1)) 94 S (C : Int)) 86 9 0) 86 11 0 86 5 = m 86 5 + 1 := rfl
      have h10' : gx_u (gx_u (gx_u (gx_u (gx_u m 93 S c) 86 5 (m 86 5 + 1)) 94 S (C : Int)) 86 9 0) 86 11 0 86 10 = (C : Int) := hC
      have h11' : gx_u (gx_u (gx_u (gx_u (gx_u m 93 S c) 86 5 (m 86 5 + 1)) 94 S (C : Int)) 86 9 0) 86 11 0 86 11 = 0 := rfl
      generalize gx_u (gx_u (gx_u (gx_u (gx_u m 93 S c) 86 5 (m 86 5 + 1)) 94 S (C : Int)) 86 9 0) 86 11 0 = m1 at hG1 r91 r94 r95 r96 h12' h6' h5' h10' h11' ⊢
      have hM : lq_M m1 N C 0 C 0 m1 := ⟨⟨hG1.1, gx_fw.rf⟩, ⟨h6', hN.2.1, by omega⟩, h10', by omega, by omega, by show ((C + 0 + 0 : Nat) : Int) ≤ _; omega, fun i hi => absurd hi (Nat.not_lt_zero _), Nat.le_refl _⟩
      refine gc_sum (d := d + 2) hM (lq_T_0 _ _ _) (fun i hi => absurd hi (Nat.not_lt_zero _)) (fun m' h => gt169_94 (by have := h.at12; omega) (fun e => absurd rfl e) (fun e => absurd rfl e) (fun _ => hQ0 m' (hG1.F h))) (fun C2 m2 g1 g2 g3 g4 => ?_)
      have e12 := g1.1.at12
      have hb := g1.C250
      have hE := g1.2.2.2.2.2.1
      have hC2 := g1.2.2.1
      refine gt169_94 (by omega) (fun _ => by omega) (fun _ => ?_) (fun e => by omega)
      rw [e12, h12', hC2, Int.toNat_natCast]
      have hG3 := (hG1.F g1.1).w9 (c := 95) (k := S) (v := (C2 : Int)) (by omega) hS (by omega) (by omega)
      have s94 : m2 94 = m1 94 := g1.1.row (by decide) (by decide) (by decide)
      have s95 : m2 95 = m1 95 := g1.1.row (by decide) (by decide) (by decide)
      have s96 : m2 96 = m1 96 := g1.1.row (by decide) (by decide) (by decide)
      refine gc_cl_end ⟨hG, hN, hC, hCP, h12, hS16, hcl⟩ hS hG3 g1.2.1 (C2 := C2) hC2 ?_ ?_ ?_ ?_ ?_ ?_ ?_ g2.1 hQ0 (fun C' m' h => hQ C' m' hS h)
      · show (C2 : Int) ≤ m2 86 5; omega
      · show m2 86 12 = _; omega
      · rw [gx_u_off (by decide), s94, r94]
      · rw [gx_u_row, s95, r95]
      · rw [gx_u_off (by decide), s96, r96]
      · intro k hk
        rw [gx_u_off (by decide), g1.1.at91 hk, r91]
      · rw [gx_u_off (by decide)]
        exact lq_T_end g2 (by omega)
  have hv : ∀ c : Int, c = lq_here m → gx_to xs w0 (d + 6) yp_m171 0 [(0, .inl c)] [] m (fun r m' => gx_to xs w0 (d + 7) yp_m169 9 [(0, .inr 86), (1, .inl c)] (gx_rs r ++ []) m' Q) := fun c hc =>
    gt171_0 (fun e => hyes c hc (by omega) (by omega) (by omega)) (fun _ e => hyes c hc (by omega) (by omega) (by omega)) (fun _ _ e => hyes c hc (by omega) (by omega) (by omega)) (fun _ _ _ e => hyes c hc (by omega) (by omega) (by omega)) (fun _ _ _ _ _ => hno c) (fun _ _ _ _ e => hyes c hc (by omega) (by omega) (by omega))
  exact gt169_0 (gc_here hI (gt169_4 (hv _ rfl)))
def lq_al : bx_M := [(86, 4, 14), (91, 0, 260), (92, 0, 260), (93, 0, 16), (94, 0, 16), (95, 0, 16), (96, 0, 16), (97, 0, 260), (98, 0, 16), (99, 0, 16), (100, 0, 16), (101, 0, 16)]
theorem lq_lw_al {m m' : gx_M} (h : gx_fw lq_lw m m') : gx_fw lq_al m m' := h.sub (fun q hq => by
  simp only [lq_lw, List.mem_cons, List.not_mem_nil, or_false] at hq
  rcases hq with rfl | rfl | rfl | rfl | rfl | rfl | rfl | rfl
  · exact ⟨(86, 4, 14), by simp [lq_al], rfl, by decide, by decide⟩
  · exact ⟨(86, 4, 14), by simp [lq_al], rfl, by decide, by decide⟩
  all_goals exact ⟨_, by simp [lq_al], rfl, Nat.le_refl _, Nat.le_refl _⟩)
/-- what the last copies take for granted -/
def lq_Z (m0 : gx_M) (S C : Nat) (b : gx_M) (m : gx_M) : Prop := gx_I m ∧ gx_fw lq_al m0 m ∧ m 86 10 = (C : Int) ∧ m 86 12 = (S : Int) ∧ m 86 13 = (S : Int) ∧ m 91 = b 91 ∧ m 94 = b 94 ∧ m 95 = b 95 ∧ m 96 = b 96
theorem gl_law138 {m0 b : gx_M} {S C : Nat} (hS : S ≤ 16) (hC : C ≤ 240) (hcl : lq_cl b S C) (hQ : ∀ v m', gx_I m' → gx_X m' → gx_fw lq_al m0 m' → Q (some v) m') : ∀ (j k : Nat) (m : gx_M), S - k = j → k ≤ S → lq_Z m0 S C b m → (∀ i : Nat, i < C → m 97 i = b 91 i) → (∀ q : Nat, q < k → m 99 q = b 94 q ∧ m 100 q = b 95 q ∧ m 101 q = b 96 q) → gx_to xs w0 d yp_m168 138 [(0, .inr 86), (3, .inl (k : Int))] [] m Q := by
  intro j
  induction j with
  | zero =>
    intro k m hj hk hZ h97 hq
    obtain ⟨hI, hf, h10, h12, h13, h91, h94, h95, h96⟩ := hZ
    refine gt168_138 (by omega) (by omega) (fun _ => hQ _ m hI (fun q q16 hqS => ?_) hf) (fun c => by omega)
    have hq' : q < S := by omega
    obtain ⟨w1, w2, w3⟩ := hcl q hq'
    obtain ⟨e1, e2, e3⟩ := hq q (by omega)
    have hq2 := w2.2.1
    rw [e1, e2, e3]
    exact ⟨gx_wf_b (fun i hi => h97 i (by omega)) w1, gx_wf_b (fun i hi => h97 i (by omega)) w2⟩
  | succ j ih =>
    intro k m hj hk hZ h97 hq
    obtain ⟨hI, hf, h10, h12, h13, h91, h94, h95, h96⟩ := hZ
    refine gt168_138 (by omega) (by omega) (fun c => by omega) (fun c => ?_)
    rw [Int.toNat_natCast]
    have rg : ∀ c : Nat, c = 93 ∨ c = 94 ∨ c = 95 ∨ c = 96 → -2147483648 ≤ m c k ∧ m c k ≤ 2147483647 := fun c hc => by
      have hcov : gx_cov c 0 15 (-2147483648) 2147483647 = true := by rcases hc with rfl | rfl | rfl | rfl <;> decide +kernel
      have := gx_I_at hI c (z := (k : Int)) 0 15 _ _ hcov (by omega) (by omega)
      rwa [Int.toNat_natCast] at this
    have wr : ∀ (c : Nat) (v : Int) (m' : gx_M), (c = 98 ∨ c = 99 ∨ c = 100 ∨ c = 101) → gx_I m' ∧ gx_fw lq_al m0 m' → -2147483648 ≤ v ∧ v ≤ 2147483647 → gx_I (gx_u m' c k v) ∧ gx_fw lq_al m0 (gx_u m' c k v) := fun c v m' hc h hv => by
      have hcov : gx_cow c 0 15 (-2147483648) 2147483647 = true := by rcases hc with rfl | rfl | rfl | rfl <;> decide +kernel
      have := gx_I_w h.1 c (z := (k : Int)) (v := v) 0 15 _ _ hcov (by omega) (by omega) hv.1 hv.2
      rw [Int.toNat_natCast] at this
      exact ⟨this, h.2.w ⟨(c, 0, 16), by rcases hc with rfl | rfl | rfl | rfl <;> simp [lq_al], rfl, Nat.zero_le _, by show k < 16; omega⟩⟩
    have hw := wr 101 (m 96 k) _ (by omega) (wr 100 (m 95 k) _ (by omega) (wr 99 (m 94 k) _ (by omega) (wr 98 (m 93 k) _ (by omega) ⟨hI, hf⟩ (rg 93 (by omega))) (rg 94 (by omega))) (rg 95 (by omega))) (rg 96 (by omega))
    have := ih (k + 1) _ (by omega) (by omega) ⟨hw.1, hw.2, h10, h12, h13, by rw [gx_u_off (by decide), gx_u_off (by decide), gx_u_off (by decide), gx_u_off (by decide)]; exact h91, by rw [gx_u_off (by decide), gx_u_off (by decide), gx_u_off (by decide), gx_u_off (by decide)]; exact h94, by rw [gx_u_off (by decide), gx_u_off (by decide), gx_u_off (by decide), gx_u_off (by decide)]; exact h95, by rw [gx_u_off (by decide), gx_u_off (by decide), gx_u_off (by decide), gx_u_off (by decide)]; exact h96⟩ (fun i hi => by
      rw [gx_u_off (by decide), gx_u_off (by decide), gx_u_off (by decide), gx_u_off (by decide)]; exact h97 i hi) (fun q hqk => by
      rw [show gx_u (gx_u (gx_u (gx_u m 98 k (m 93 k)) 99 k (m 94 k)) 100 k (m 95 k)) 101 k (m 96 k) 99 = lf_up (m 99) k (m 94 k) by rw [gx_u_off (by decide), gx_u_off (by decide), gx_u_row, gx_u_off (by decide)],
        show gx_u (gx_u (gx_u (gx_u m 98 k (m 93 k)) 99 k (m 94 k)) 100 k (m 95 k)) 101 k (m 96 k) 100 = lf_up (m 100) k (m 95 k) by rw [gx_u_off (by decide), gx_u_row, gx_u_off (by decide), gx_u_off (by decide)],
        show gx_u (gx_u (gx_u (gx_u m 98 k (m 93 k)) 99 k (m 94 k)) 100 k (m 95 k)) 101 k (m 96 k) 101 = lf_up (m 101) k (m 96 k) by rw [gx_u_row, gx_u_off (by decide), gx_u_off (by decide), gx_u_off (by decide)]]
      by_cases e : q = k
      · rw [e, lf_up_eq, lf_up_eq, lf_up_eq, h94, h95, h96]
        exact ⟨rfl, rfl, rfl⟩
      · rw [lf_up_ne e, lf_up_ne e, lf_up_ne e]
        exact hq q (by omega))
    rw [show ((k + 1 : Nat) : Int) = (k : Int) + 1 by omega] at this
    exact this
theorem gl_law110 {m0 b : gx_M} {S C : Nat} (hS : S ≤ 16) (hC : C ≤ 240) (hcl : lq_cl b S C) (hQ : ∀ v m', gx_I m' → gx_X m' → gx_fw lq_al m0 m' → Q (some v) m') : ∀ (j k : Nat) (m : gx_M), C - k = j → k ≤ C → lq_Z m0 S C b m → (∀ i : Nat, i < k → m 97 i = b 91 i) → gx_to xs w0 d yp_m168 110 [(0, .inr 86), (3, .inl (k : Int))] [] m Q := by
  intro j
  induction j with
  | zero =>
    intro k m hj hk hZ h97
    have h10 := hZ.2.2.1
    exact gt168_110 (by omega) (by omega) (fun _ => gl_law138 hS hC hcl hQ S 0 m (by omega) (by omega) hZ (fun i hi => h97 i (by omega)) (fun q hq => absurd hq (Nat.not_lt_zero _))) (fun c => by omega)
  | succ j ih =>
    intro k m hj hk hZ h97
    obtain ⟨hI, hf, h10, h12, h13, h91, h94, h95, h96⟩ := hZ
    refine gt168_110 (by omega) (by omega) (fun c => by omega) (fun c => ?_)
    have hr := gx_I_at hI 91 (z := (k : Int)) 0 259 (-2147483648) 2147483647 (by decide +kernel) (by omega) (by omega)
    have hw := gx_I_w hI 97 (z := (k : Int)) (v := m 91 k) 0 259 (-2147483648) 2147483647 (by decide +kernel) (by omega) (by omega) (by rw [Int.toNat_natCast] at hr; exact hr.1) (by rw [Int.toNat_natCast] at hr; exact hr.2)
    rw [Int.toNat_natCast] at hw ⊢
    have := ih (k + 1) (gx_u m 97 k (m 91 k)) (by omega) (by omega) ⟨hw, hf.w ⟨(97, 0, 260), by simp [lq_al], rfl, Nat.zero_le _, by show k < 260; omega⟩, h10, h12, h13, by rw [gx_u_off (by decide)]; exact h91, by rw [gx_u_off (by decide)]; exact h94, by rw [gx_u_off (by decide)]; exact h95, by rw [gx_u_off (by decide)]; exact h96⟩ (fun i hi => by
      rw [gx_u_row]
      by_cases e : i = k
      · rw [e, lf_up_eq, h91]
      · rw [lf_up_ne e]; exact h97 i (by omega))
    rw [show ((k + 1 : Nat) : Int) = (k : Int) + 1 by omega] at this
    exact this
theorem gl_law46 {m00 m0 : gx_M} {N : Int} (h00 : gx_fw lq_al m00 m0) (hX : gx_X m00) (hd : ∀ m', gx_fw lq_lw m0 m' → gx_X m') (hQ : ∀ v m', gx_I m' → gx_X m' → gx_fw lq_al m00 m' → Q (some v) m') : ∀ (j S C : Nat) (m : gx_M), 17 - S ≤ j → lq_L m0 N S C m → gx_to xs w0 (d + 8) yp_m168 46 [(0, .inr 86), (2, .inl 1)] [] m Q := by
  have hfail : ∀ m', lq_G m0 m' → gx_to xs w0 (d + 8) yp_m168 46 [(0, .inr 86), (2, .inl 0)] [] m' Q := fun m' h => by
    have hI4 := gx_I_w h.1 86 (z := 4) (v := 0) 4 4 0 260 (by decide +kernel) (by omega) (by omega) (by omega) (by omega)
    refine gt168_46 h.1 (fun _ _ => hQ _ _ hI4 ?_ ((h00.tr (lq_lw_al h.2)).w ⟨(86, 4, 14), by simp [lq_al], rfl, by decide, by decide⟩)) (fun e => absurd rfl e) (fun e => absurd rfl e) (fun e => absurd rfl e)
    exact gx_X_c.fw (mods := [(86, 4, 5)]) (gx_fw.rf.w ⟨_, List.mem_singleton.mpr rfl, rfl, by decide, by decide⟩) (by decide) (hd m' h.2)
  intro j
  induction j with
  | zero => intro S C m hj hL; have := hL.2.2.2.2.2.1; omega
  | succ j ih =>
    intro S C m hj hL
    have hI := hL.1.1
    obtain ⟨hG, hN, hC, hCP, h12, hS16, hcl⟩ := id hL
    have hP0 := gx_I_n hI 86 5 0 260 (by decide +kernel)
    refine gt168_46 hI (fun e => by omega) (fun _ c _ => ?_) (fun _ _ e => by omega) (fun _ c => gt189_0 (gc_here hI (gt189_4 hI (fun c1 => gt168_67 (fun e => by omega) (fun _ => ?_)) (fun _ => gt172_0 (gt189_17 (.inl rfl) (gt168_67 (fun _ => hfail _ (hG.w86 (by omega) (gx_w_bd _).1 (gx_w_bd _).2)) (fun e => absurd rfl e)))))))
    · have hI4 := gx_I_w hI 86 (z := 4) (v := 0) 4 4 0 260 (by decide +kernel) (by omega) (by omega) (by omega) (by omega)
      have hI13 := gx_I_w hI4 86 (z := 13) (v := m 86 12) 13 13 0 16 (by decide +kernel) (by omega) (by omega) (by omega) (by omega)
      refine gl_law110 hS16 (by omega) hcl hQ C 0 _ rfl (Nat.zero_le _) ⟨hI13, ((h00.tr (lq_lw_al hG.2)).w ⟨(86, 4, 14), by simp [lq_al], rfl, by decide, by decide⟩).w ⟨(86, 4, 14), by simp [lq_al], rfl, by decide, by decide⟩, hC, h12, h12, ?_, ?_, ?_, ?_⟩ (fun i hi => absurd hi (Nat.not_lt_zero _))
      all_goals rw [gx_u_off (by decide), gx_u_off (by decide)]
    · have hG1 := hG.w5 (v := m 86 5 + 1) (by omega) (by omega)
      have hL1 : lq_L m0 N S C (gx_u m 86 5 (m 86 5 + 1)) := ⟨hG1, ⟨hN.1, hN.2.1, by rw [gx_u_self]; omega⟩, hC, by rw [gx_u_self]; omega, h12, hS16, fun q hq => by
        rw [gx_u_off (by decide), gx_u_off (by decide), gx_u_off (by decide), gx_u_off (by decide)]
        exact hcl q hq⟩
      exact gc_clause (d := d) hL1 (fun m' h => gt168_74 (fun _ => hfail m' h) (fun e => absurd rfl e)) (fun C' m' hS h => gt168_74 (fun e => by omega) (fun _ => ih (S + 1) C' m' (by omega) h))
theorem gc_law (hI : gx_I m) (hX : gx_X m) {n : Int} (hQ : ∀ v m', gx_I m' → gx_X m' → gx_fw lq_al m m' → Q (some v) m') : gx_to xs w0 (d + 8) yp_m168 0 [(0, .inr 86), (1, .inl n)] [] m Q := by
  have hno : ∀ v, Q (some v) m := fun v => hQ v m hI hX gx_fw.rf
  refine gt168_0 (gc_in (fun n1 n2 => gt168_8 hI (fun e => by omega) (fun _ _ => ?_) (fun _ _ => hno _)) (fun _ => gt168_8 hI (fun _ => hno _) (fun e => absurd rfl e) (fun e => absurd rfl e)))
  have i5 := gx_I_w hI 86 (z := 5) (v := 0) 5 5 0 260 (by decide +kernel) (by omega) (by omega) (by omega) (by omega)
  have i6 := gx_I_w i5 86 (z := 6) (v := n) 6 6 0 260 (by decide +kernel) (by omega) (by omega) (by omega) (by omega)
  have i10 := gx_I_w i6 86 (z := 10) (v := 0) 10 10 (-2147483648) 2147483647 (by decide +kernel) (by omega) (by omega) (by omega) (by omega)
  have i12 := gx_I_w i10 86 (z := 12) (v := 0) 12 12 (-2147483648) 2147483647 (by decide +kernel) (by omega) (by omega) (by omega) (by omega)
  have hin : ∀ k : Nat, 4 ≤ k → k < 14 → ∃ q ∈ lq_al, q.1 = 86 ∧ q.2.1 ≤ k ∧ k < q.2.2 := fun k h1 h2 => ⟨(86, 4, 14), by simp [lq_al], rfl, h1, h2⟩
  have hf : gx_fw lq_al m (gx_u (gx_u (gx_u (gx_u m 86 5 0) 86 6 n) 86 10 0) 86 12 0) := (((gx_fw.rf.w (hin 5 (by omega) (by omega))).w (hin 6 (by omega) (by omega))).w (hin 10 (by omega) (by omega))).w (hin 12 (by omega) (by omega))
  have hX1 : gx_X (gx_u (gx_u (gx_u (gx_u m 86 5 0) 86 6 n) 86 10 0) 86 12 0) := gx_X_c.fw (mods := [(86, 5, 6), (86, 6, 7), (86, 10, 11), (86, 12, 13)]) ((((gx_fw.rf.w ⟨(86, 5, 6), by simp, rfl, by decide, by decide⟩).w ⟨(86, 6, 7), by simp, rfl, by decide, by decide⟩).w ⟨(86, 10, 11), by simp, rfl, by decide, by decide⟩).w ⟨(86, 12, 13), by simp, rfl, by decide, by decide⟩) (by decide) hX
  have hd : ∀ m', gx_fw lq_lw (gx_u (gx_u (gx_u (gx_u m 86 5 0) 86 6 n) 86 10 0) 86 12 0) m' → gx_X m' := fun m' h => gx_X_c.fw h (by decide) hX1
  have hL : lq_L (gx_u (gx_u (gx_u (gx_u m 86 5 0) 86 6 n) 86 10 0) 86 12 0) n 0 0 (gx_u (gx_u (gx_u (gx_u m 86 5 0) 86 6 n) 86 10 0) 86 12 0) := ⟨⟨i12, gx_fw.rf⟩, ⟨rfl, by omega, by show (0 : Int) ≤ n; omega⟩, rfl, by show ((0 : Nat) : Int) ≤ 0; omega, rfl, by omega, fun q hq => absurd hq (Nat.not_lt_zero _)⟩
  have hfail : ∀ m', lq_G (gx_u (gx_u (gx_u (gx_u m 86 5 0) 86 6 n) 86 10 0) 86 12 0) m' → gx_to xs w0 (d + 8) yp_m168 46 [(0, .inr 86), (2, .inl 0)] [] m' Q := fun m' h => by
    have hI4 := gx_I_w h.1 86 (z := 4) (v := 0) 4 4 0 260 (by decide +kernel) (by omega) (by omega) (by omega) (by omega)
    refine gt168_46 h.1 (fun _ _ => hQ _ _ hI4 ?_ ((hf.tr (lq_lw_al h.2)).w (hin 4 (by omega) (by omega)))) (fun e => absurd rfl e) (fun e => absurd rfl e) (fun e => absurd rfl e)
    exact gx_X_c.fw (mods := [(86, 4, 5)]) (gx_fw.rf.w ⟨_, List.mem_singleton.mpr rfl, rfl, by decide, by decide⟩) (by decide) (hd m' h.2)
  exact gc_clause (d := d) hL (fun m' h => gt168_45 (hfail m' h)) (fun C' m' hS h => gt168_45 (gl_law46 (d := d) hf hX hd hQ 17 1 C' m' (by omega) h))
theorem gk_law : bx_Kok yp_P xs bw_INV (gx_XW gx_X) bk_115 := by
  refine gx_K_of (by decide) rfl (fun M w0 v m hM hv hI hX _ => ?_)
  cases (Option.some.inj (hM.symm.trans rfl) : M = yp_m168)
  match v, hv with
  | x1 :: r, hv =>
    refine gc_law (d := 0) hI hX (fun v m' hI' hX' hf hb => ⟨⟨rfl, hb v rfl⟩, hI', hX', fun c k hn => hf c k (fun q hq hx => ?_)⟩)
    have mem : ∀ q0 : Nat × Nat × Nat, q0 ∈ bk_115.2.2.2.2.2.1 → ¬ (q0.1 = c ∧ q0.2.1 ≤ k ∧ k < q0.2.2) := fun q0 h => hn q0 h
    simp only [lq_al, List.mem_cons, List.not_mem_nil, or_false] at hq
    rcases hq with rfl | rfl | rfl | rfl | rfl | rfl | rfl | rfl | rfl | rfl | rfl | rfl
    · dsimp only at hx
      have hk : k = 4 ∨ k = 5 ∨ k = 6 ∨ k = 7 ∨ k = 8 ∨ k = 9 ∨ k = 10 ∨ k = 11 ∨ k = 12 ∨ k = 13 := by omega
      rcases hk with rfl | rfl | rfl | rfl | rfl | rfl | rfl | rfl | rfl | rfl
      · exact mem (86, 4, 5) (by decide) ⟨hx.1, by decide, by decide⟩
      · exact mem (86, 5, 6) (by decide) ⟨hx.1, by decide, by decide⟩
      · exact mem (86, 6, 7) (by decide) ⟨hx.1, by decide, by decide⟩
      · exact mem (86, 7, 8) (by decide) ⟨hx.1, by decide, by decide⟩
      · exact mem (86, 8, 9) (by decide) ⟨hx.1, by decide, by decide⟩
      · exact mem (86, 9, 10) (by decide) ⟨hx.1, by decide, by decide⟩
      · exact mem (86, 10, 11) (by decide) ⟨hx.1, by decide, by decide⟩
      · exact mem (86, 11, 12) (by decide) ⟨hx.1, by decide, by decide⟩
      · exact mem (86, 12, 13) (by decide) ⟨hx.1, by decide, by decide⟩
      · exact mem (86, 13, 14) (by decide) ⟨hx.1, by decide, by decide⟩
    all_goals exact mem _ (by decide) hx
end GLW
end
