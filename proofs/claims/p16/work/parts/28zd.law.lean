/-! law: the state of the reading, and its small steps -/
def lq_md (a : Nat) : bx_M := [(86, 5, 6), (86, 7, 12), (91, a, 260), (92, 0, 260)]
def lq_F (m0 : gx_M) (a : Nat) (m : gx_M) : Prop := gx_I m ∧ gx_fw (lq_md a) m0 m
theorem lq_F.w86 {m0 m : gx_M} {a : Nat} (h : lq_F m0 a m) {k : Nat} {v : Int} (hk : k = 7 ∨ k = 8 ∨ k = 9 ∨ k = 10 ∨ k = 11) (h1 : -2147483648 ≤ v) (h2 : v ≤ 2147483647) : lq_F m0 a (gx_u m 86 k v) := by
  have hc : gx_cow 86 7 11 (-2147483648) 2147483647 = true := by decide +kernel
  have := gx_I_w h.1 86 (z := (k : Int)) (v := v) 7 11 _ _ hc (by omega) (by omega) h1 h2
  rw [Int.toNat_natCast] at this
  exact ⟨this, h.2.w ⟨(86, 7, 12), by simp [lq_md], rfl, by show 7 ≤ k; omega, by show k < 12; omega⟩⟩
theorem lq_F.w5 {m0 m : gx_M} {a : Nat} (h : lq_F m0 a m) {v : Int} (h1 : 0 ≤ v) (h2 : v ≤ 260) : lq_F m0 a (gx_u m 86 5 v) :=
  ⟨gx_I_w h.1 86 (z := 5) (v := v) 5 5 0 260 (by decide +kernel) (by omega) (by omega) h1 h2, h.2.w ⟨(86, 5, 6), by simp [lq_md], rfl, Nat.le_refl _, by decide⟩⟩
theorem lq_F.w91 {m0 m : gx_M} {a : Nat} (h : lq_F m0 a m) {k : Nat} {v : Int} (hk : a ≤ k) (hk' : k < 260) (h1 : -2147483648 ≤ v) (h2 : v ≤ 2147483647) : lq_F m0 a (gx_u m 91 k v) := by
  have := gx_I_w h.1 91 (z := (k : Int)) (v := v) 0 259 (-2147483648) 2147483647 (by decide +kernel) (by omega) (by omega) h1 h2
  rw [Int.toNat_natCast] at this
  exact ⟨this, h.2.w ⟨(91, a, 260), by simp [lq_md], rfl, hk, hk'⟩⟩
theorem lq_F.w92 {m0 m : gx_M} {a : Nat} (h : lq_F m0 a m) {k : Nat} {v : Int} (hk' : k < 260) (h1 : -2147483648 ≤ v) (h2 : v ≤ 2147483647) : lq_F m0 a (gx_u m 92 k v) := by
  have := gx_I_w h.1 92 (z := (k : Int)) (v := v) 0 259 (-2147483648) 2147483647 (by decide +kernel) (by omega) (by omega) h1 h2
  rw [Int.toNat_natCast] at this
  exact ⟨this, h.2.w ⟨(92, 0, 260), by simp [lq_md], rfl, Nat.zero_le _, hk'⟩⟩
theorem lq_F.at6 {m0 m : gx_M} {a : Nat} (h : lq_F m0 a m) : m 86 6 = m0 86 6 := h.2 86 6 (fun q hq => by
  simp only [lq_md, List.mem_cons, List.not_mem_nil, or_false] at hq
  rcases hq with rfl | rfl | rfl | rfl <;> simp)
/-- the state of the reading: place, codes, what waits -/
def lq_M (m0 : gx_M) (N : Int) (a e C W : Nat) (m : gx_M) : Prop := lq_F m0 a m ∧ (m 86 6 = N ∧ N ≤ 240 ∧ m 86 5 ≤ N) ∧ m 86 10 = (C : Int) ∧ m 86 11 = (W : Int) ∧ (W : Int) ≤ m 86 5 ∧ ((C + lq_ce (m 92) W + e : Nat) : Int) ≤ m 86 5 ∧ (∀ i, i < W → 0 ≤ m 92 i) ∧ a ≤ C
theorem lq_M.C250 {m0 m : gx_M} {N : Int} {a e C W : Nat} (h : lq_M m0 N a e C W m) : (C : Int) ≤ 240 ∧ (W : Int) ≤ 240 ∧ 0 ≤ m 86 5 := by
  obtain ⟨-, ⟨-, h1, h2⟩, -, -, h3, h4, -⟩ := h
  omega
theorem lq_M.P0 {m0 m : gx_M} {N : Int} {a e C W : Nat} (h : lq_M m0 N a e C W m) : 0 ≤ m 86 5 ∧ m 86 5 ≤ 240 := by
  obtain ⟨-, ⟨-, h1, h2⟩, -, -, h3, h4, -⟩ := h
  omega
def lq_here (m : gx_M) : Int := if m 86 5 < m 86 6 then gx_and (m 90 (m 86 5).toNat) 255 else -1
def lq_top (m : gx_M) (W : Nat) : Int := if W = 0 then -1 else m 92 (W - 1) / 1048576
section GLA
variable {xs : List Int32} {w0 : sx_W} {d : Nat} {Q : gx_Q} {m : gx_M}
theorem gc_here (hI : gx_I m) (hQ : Q (some (lq_here m)) m) : gx_to xs w0 d yp_m170 0 [(0, .inr 86)] [] m Q := by
  unfold lq_here at hQ
  exact gt170_0 hI (fun c => by rw [if_neg (by omega)] at hQ; exact hQ) (fun c => by rw [if_pos c] at hQ; exact hQ)
theorem lq_here_lt {m : gx_M} (h : lq_here m ≠ -1) : m 86 5 < m 86 6 := by
  unfold lq_here at h
  by_cases c : m 86 5 < m 86 6
  · exact c
  · rw [if_neg c] at h; exact absurd rfl h
theorem gc_wrong {m0 : gx_M} {a : Nat} (hF : lq_F m0 a m) {x y : Int} (hQ : ∀ m', lq_F m0 a m' → Q (some 0) m') : gx_to xs w0 d yp_m172 0 [(0, .inr 86), (1, .inl x), (2, .inl y)] [] m Q :=
  gt172_0 (hQ _ (hF.w86 (.inl rfl) (gx_w_bd _).1 (gx_w_bd _).2))
def lq_dg (m : gx_M) : Prop := 48 ≤ lq_here m ∧ lq_here m ≤ 57
theorem gc_dg (hI : gx_I m) (h1 : lq_dg m → Q (some 1) m) (h0 : ¬ lq_dg m → Q (some 0) m) : gx_to xs w0 (d + 1) yp_m176 0 [(0, .inr 86)] [] m Q :=
  gt176_0 (gc_here hI (gt176_4 (fun c => h0 (fun h => by have := h.1; omega)) (fun c => gc_here hI (gt176_13 (fun c' => h0 (fun h => by have := h.2; omega)) (fun c' => h1 ⟨c, c'⟩)))))
theorem gc_top {m0 : gx_M} {N : Int} {a e C W : Nat} (hM : lq_M m0 N a e C W m) (hQ : Q (some (lq_top m W)) m) : gx_to xs w0 d yp_m182 0 [(0, .inr 86)] [] m Q := by
  have hb := hM.C250
  obtain ⟨hF, -, -, hW, -, -, hw, -⟩ := hM
  unfold lq_top at hQ
  refine gt182_0 (by omega) (fun c => ?_) (fun c => by rw [if_pos (by omega)] at hQ; exact hQ)
  rw [if_neg (by omega)] at hQ
  have h0 := hw (W - 1) (by omega)
  have hr := gx_I_at hF.1 92 (z := ((W - 1 : Nat) : Int)) 0 259 (-2147483648) 2147483647 (by decide +kernel) (by omega) (by omega)
  rw [Int.toNat_natCast] at hr
  rw [hW, show ((W : Int) - 1).toNat = W - 1 by omega, Int.tdiv_eq_ediv_of_nonneg h0, gx_w_id (by omega) (by omega)]
  exact hQ
/-! a code is noted -/
def lq_note (m : gx_M) (C : Nat) (x : Int) : gx_M := gx_u (gx_u m 91 C x) 86 10 ((C : Int) + 1)
theorem lq_note91 (m : gx_M) (C : Nat) (x : Int) : lq_note m C x 91 = lf_up (m 91) C x := by
  unfold lq_note
  rw [gx_u_off (by decide), gx_u_row]
theorem lq_note92 (m : gx_M) (C : Nat) (x : Int) : lq_note m C x 92 = m 92 := by
  unfold lq_note
  rw [gx_u_off (by decide), gx_u_off (by decide)]
theorem lq_note_M {m0 : gx_M} {N : Int} {a e e' C W : Nat} {x : Int} (hM : lq_M m0 N a e C W m) (hx : 0 ≤ x ∧ x ≤ 2147483647) (hb : ((C + 1 + lq_ce (m 92) W + e' : Nat) : Int) ≤ m 86 5) : lq_M m0 N a e' (C + 1) W (lq_note m C x) := by
  have hb2 := hM.C250
  obtain ⟨hF, hN, hC, hW, hWP, -, hw, ha⟩ := hM
  refine ⟨(hF.w91 ha (by omega) (by omega) hx.2).w86 (by omega) (by omega) (by omega), hN, ?_, hW, hWP, ?_, ?_, by omega⟩
  · show (C : Int) + 1 = _
    omega
  · rw [lq_note92]
    exact hb
  · rw [lq_note92]
    exact hw
theorem gc_note {m0 : gx_M} {N : Int} {a e C W : Nat} {o v : Int} (hM : lq_M m0 N a e C W m) (ho : 0 ≤ o ∧ o ≤ 14) (hv : 0 ≤ v ∧ v ≤ 1048575) (hQ : Q none (lq_note m C (1048576 * o + v))) : gx_to xs w0 d yp_m178 0 [(0, .inr 86), (1, .inl o), (2, .inl v)] [] m Q := by
  have hb := hM.C250
  have hC := hM.2.2.1
  refine gt178_0 ho hv (by omega) ?_
  rw [hC, Int.toNat_natCast]
  exact hQ
/-! one is taken off what waits -/
theorem lq_pop_M {m0 : gx_M} {N : Int} {a e e' C W : Nat} (hM : lq_M m0 N a e C (W + 1) m) (hb : ((C + lq_ce (m 92) W + e' : Nat) : Int) ≤ m 86 5) : lq_M m0 N a e' C W (gx_u m 86 11 (W : Int)) := by
  have hb2 := hM.C250
  obtain ⟨hF, hN, hC, hW, hWP, -, hw, ha⟩ := hM
  refine ⟨hF.w86 (by omega) (by omega) (by omega), hN, hC, ?_, ?_, ?_, fun i hi => ?_, ha⟩
  · exact gx_u_self
  · show (W : Int) ≤ m 86 5
    omega
  · rw [gx_u_off (by decide : (92 : Nat) ≠ 86)]
    exact hb
  · rw [gx_u_off (by decide : (92 : Nat) ≠ 86)]
    exact hw i (by omega)
theorem lq_86_9 {m0 : gx_M} {N : Int} {a e C W : Nat} {v : Int} (hM : lq_M m0 N a e C W m) (hv : -2147483648 ≤ v ∧ v ≤ 2147483647) : lq_M m0 N a e C W (gx_u m 86 9 v) := by
  obtain ⟨hF, hN, hC, hW, hWP, hE, hw, ha⟩ := hM
  refine ⟨hF.w86 (by omega) hv.1 hv.2, hN, hC, hW, hWP, ?_, fun i hi => ?_, ha⟩
  · rw [gx_u_off (by decide : (92 : Nat) ≠ 86)]
    exact hE
  · rw [gx_u_off (by decide : (92 : Nat) ≠ 86)]
    exact hw i hi
theorem lq_86_8 {m0 : gx_M} {N : Int} {a e C W : Nat} {v : Int} (hM : lq_M m0 N a e C W m) (hv : -2147483648 ≤ v ∧ v ≤ 2147483647) : lq_M m0 N a e C W (gx_u m 86 8 v) := by
  obtain ⟨hF, hN, hC, hW, hWP, hE, hw, ha⟩ := hM
  refine ⟨hF.w86 (by omega) hv.1 hv.2, hN, hC, hW, hWP, ?_, fun i hi => ?_, ha⟩
  · rw [gx_u_off (by decide : (92 : Nat) ≠ 86)]
    exact hE
  · rw [gx_u_off (by decide : (92 : Nat) ≠ 86)]
    exact hw i hi
/-- the place goes on by one -/
theorem lq_step_M {m0 : gx_M} {N : Int} {a e e' C W : Nat} (hM : lq_M m0 N a e C W m) (hlt : m 86 5 < m 86 6) (he : e' ≤ e + 1) : lq_M m0 N a e' C W (gx_u m 86 5 (m 86 5 + 1)) := by
  have hP := hM.P0
  obtain ⟨hF, hN, hC, hW, hWP, hE, hw, ha⟩ := hM
  have e92 : gx_u m 86 5 (m 86 5 + 1) 92 = m 92 := gx_u_off (by decide)
  refine ⟨hF.w5 (by omega) (by omega), ⟨hN.1, hN.2.1, ?_⟩, hC, hW, ?_, ?_, fun i hi => ?_, ha⟩
  · rw [gx_u_self]; omega
  · rw [gx_u_self]; omega
  · rw [gx_u_self, e92]; omega
  · rw [e92]; exact hw i hi
/-- one is laid on what waits, the place goes on by one -/
def lq_push (m : gx_M) (W : Nat) (y : Int) : gx_M := gx_u (gx_u (gx_u m 92 W y) 86 11 ((W : Int) + 1)) 86 5 (m 86 5 + 1)
theorem lq_push91 (m : gx_M) (W : Nat) (y : Int) : lq_push m W y 91 = m 91 := by
  unfold lq_push
  rw [gx_u_off (by decide), gx_u_off (by decide), gx_u_off (by decide)]
theorem lq_push92 (m : gx_M) (W : Nat) (y : Int) : lq_push m W y 92 = lf_up (m 92) W y := by
  unfold lq_push
  rw [gx_u_off (by decide), gx_u_off (by decide), gx_u_row]
theorem lq_1e_le (x : Int) : lq_1e x ≤ 1 := by unfold lq_1e; split <;> omega
theorem lq_push_M {m0 : gx_M} {N : Int} {a e C W : Nat} {y : Int} (hM : lq_M m0 N a e C W m) (hlt : m 86 5 < m 86 6) (hy : 0 ≤ y ∧ y ≤ 2147483647) : lq_M m0 N a e C (W + 1) (lq_push m W y) := by
  have hP := hM.P0
  have hb := hM.C250
  obtain ⟨hF, hN, hC, hW, hWP, hE, hw, ha⟩ := hM
  have e5 : lq_push m W y 86 5 = m 86 5 + 1 := gx_u_self
  have h1 := lq_1e_le y
  refine ⟨((hF.w92 (by omega) (by omega) hy.2).w86 (by omega) (by omega) (by omega)).w5 (by omega) (by omega), ⟨hN.1, hN.2.1, by rw [e5]; omega⟩, hC, ?_, by rw [e5]; omega, ?_, fun i hi => ?_, ha⟩
  · show (W : Int) + 1 = _
    omega
  · rw [e5, lq_push92, lq_ce_up]
    omega
  · rw [lq_push92]
    by_cases e : i = W
    · rw [e, lf_up_eq]; exact hy.1
    · rw [lf_up_ne e]; exact hw i (by omega)
theorem gc_opens {m0 : gx_M} {N : Int} {a e C W : Nat} {o : Int} (hM : lq_M m0 N a e C W m) (hlt : m 86 5 < m 86 6) (ho : 10 ≤ o ∧ o ≤ 14) (hQ0 : ∀ m', lq_F m0 a m' → Q (some 0) m') (hQ : ∀ m', lq_M m0 N a e C (W + 1) m' → m' 91 = m 91 → m' 92 = lf_up (m 92) W (1048576 * o) → m' 86 5 = m 86 5 + 1 → Q (some 1) m') : gx_to xs w0 (d + 1) yp_m175 0 [(0, .inr 86), (1, .inl o)] [] m Q := by
  have hb := hM.C250
  have hW := hM.2.2.2.1
  refine gt175_0 hM.1.1 ho (by omega) (fun _ => ?_) (fun _ => gc_wrong hM.1 (fun m' h => gt175_18 (.inl rfl) (hQ0 m' h)))
  have h9 := lq_86_9 (v := gx_w (m 86 9 + 1)) hM (gx_w_bd _)
  have := lq_push_M (y := 1048576 * o) h9 hlt (by omega)
  rw [hW, Int.toNat_natCast]
  exact hQ _ this (by show lq_push _ _ _ 91 = _; rw [lq_push91, gx_u_off (by decide)]) (by show lq_push _ _ _ 92 = _; rw [lq_push92, gx_u_off (by decide)]) gx_u_self
end GLA
