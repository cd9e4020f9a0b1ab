/-! law: sums -/
section GLE
variable {xs : List Int32} {w0 : sx_W} {d : Nat} {Q : gx_Q} {m : gx_M}
theorem lq_np_M {m0 : gx_M} {N : Int} {a e C W : Nat} {x : Int} (hM : lq_M m0 N a e C (W + 1) m) (hx : 0 ≤ x ∧ x ≤ 2147483647) (h1 : lq_1e (m 92 W) = 1) : lq_M m0 N a e (C + 1) W (gx_u (lq_note m C x) 86 11 (W : Int)) := by
  have hb2 := hM.C250
  obtain ⟨hF, hN, hC, hW, hWP, hE, hw, ha⟩ := hM
  have hce : lq_ce (m 92) (W + 1) = lq_ce (m 92) W + lq_1e (m 92 W) := rfl
  have e92 : gx_u (lq_note m C x) 86 11 (W : Int) 92 = m 92 := by rw [gx_u_off (by decide), lq_note92]
  refine ⟨((hF.w91 ha (by omega) (by omega) hx.2).w86 (by omega) (by omega) (by omega)).w86 (by omega) (by omega) (by omega), hN, ?_, gx_u_self, ?_, ?_, fun i hi => ?_, by omega⟩
  · show (C : Int) + 1 = _
    omega
  · show (W : Int) ≤ m 86 5
    omega
  · rw [e92]
    show ((C + 1 + lq_ce (m 92) W + e : Nat) : Int) ≤ m 86 5
    omega
  · rw [e92]; exact hw i (by omega)
theorem lq_ns_M {m0 : gx_M} {N : Int} {a e C W : Nat} {x : Int} (hM : lq_M m0 N a e C W m) (hlt : m 86 5 < m 86 6) (hx : 0 ≤ x ∧ x ≤ 2147483647) : lq_M m0 N a e (C + 1) W (gx_u (lq_note m C x) 86 5 (m 86 5 + 1)) := by
  have hb2 := hM.C250
  have hP := hM.P0
  obtain ⟨hF, hN, hC, hW, hWP, hE, hw, ha⟩ := hM
  have e92 : gx_u (lq_note m C x) 86 5 (m 86 5 + 1) 92 = m 92 := by rw [gx_u_off (by decide), lq_note92]
  refine ⟨((hF.w91 ha (by omega) (by omega) hx.2).w86 (by omega) (by omega) (by omega)).w5 (by omega) (by omega), ⟨hN.1, hN.2.1, by rw [gx_u_self]; omega⟩, ?_, hW, by rw [gx_u_self]; omega, by rw [gx_u_self, e92]; omega, fun i hi => by rw [e92]; exact hw i hi, by omega⟩
  show (C : Int) + 1 = _
  omega
/-- behind an operand, ahead of one -/
def lq_A (m0 : gx_M) (N : Int) (a e C W : Nat) (m : gx_M) : Prop := lq_M m0 N a e C W m ∧ lq_T (m 91) (m 92) a C W (lq_cb (m 92) W + e + 1)
def lq_B (m0 : gx_M) (N : Int) (a e C W : Nat) (m : gx_M) : Prop := lq_M m0 N a e C W m ∧ lq_T (m 91) (m 92) a C W (lq_cb (m 92) W + e)
theorem lq_top_S (m : gx_M) (W : Nat) : lq_top m (W + 1) = m 92 W / 1048576 := if_neg (by omega)
theorem gc_close {m0 : gx_M} {N : Int} {a e : Nat} {all : Int} : ∀ (W C : Nat) (m : gx_M), lq_A m0 N a e C W m → (∀ C' W' m', lq_A m0 N a e C' W' m' → W' ≤ W → m' 92 = m 92 → m' 86 5 = m 86 5 → (∀ i, W' ≤ i → i < W → lq_bn (m 92 i)) → (all ≠ 0 → W' = 0 ∨ ¬ lq_bn (m 92 (W' - 1))) → Q none m') → gx_to xs w0 (d + 1) yp_m181 0 [(0, .inr 86), (1, .inl all)] [] m Q := by
  intro W
  induction W with
  | zero =>
    intro C m hA hQ
    have ht : lq_top m 0 = -1 := if_pos rfl
    have hs : Q none m := hQ C 0 m hA (Nat.le_refl _) rfl rfl (fun i _ hi => absurd hi (Nat.not_lt_zero _)) (fun _ => .inl rfl)
    refine gt181_0 (gc_top hA.1 (gt181_4 (fun _ _ => hs) (fun _ _ => gc_top hA.1 (gt181_25 (fun c => by omega) (fun _ => gc_top hA.1 (gt181_33 (fun _ => hs) (fun c => by omega))))) (fun c => by omega)))
  | succ W ih =>
    intro C m hA hQ
    obtain ⟨hM, hT⟩ := hA
    have ht := lq_top_S m W
    have hstop : (all ≠ 0 → ¬ lq_bn (m 92 W)) → Q none m := fun h => hQ C (W + 1) m ⟨hM, hT⟩ (Nat.le_refl _) rfl rfl (fun i h1 h2 => by omega) (fun ha => .inr (h ha))
    have hpop : lq_bn (m 92 W) → gx_to xs w0 (d + 1) yp_m181 42 [(0, .inr 86), (1, .inl all)] [.inl (lq_top m (W + 1)), .inr 86] m Q := fun hbn => by
      have hbn' := hbn
      unfold lq_bn at hbn'
      rw [ht]
      refine gt181_42 (gc_note hM (by omega) (by omega) (gt181_46 (by have := hM.C250; have := hM.2.2.2.1; show 0 ≤ m 86 11 ∧ m 86 11 ≤ 250; omega) ?_))
      have e11 : lq_note m C (1048576 * (m 92 W / 1048576) + 0) 86 11 - 1 = (W : Int) := by
        show m 86 11 - 1 = _
        have := hM.2.2.2.1
        omega
      rw [e11]
      have hM2 := lq_np_M (x := 1048576 * (m 92 W / 1048576) + 0) hM (by omega) (lq_1e_b hbn)
      have e91 : gx_u (lq_note m C (1048576 * (m 92 W / 1048576) + 0)) 86 11 (W : Int) 91 = lf_up (m 91) C (1048576 * (m 92 W / 1048576) + 0) := by rw [gx_u_off (by decide), lq_note91]
      have e92 : gx_u (lq_note m C (1048576 * (m 92 W / 1048576) + 0)) 86 11 (W : Int) 92 = m 92 := by rw [gx_u_off (by decide), lq_note92]
      have hcb : lq_cb (m 92) (W + 1) = lq_cb (m 92) W + 1 := by
        show lq_cb (m 92) W + lq_1b (m 92 W) = _
        rw [lq_1b_t hbn]
      have hT2 : lq_T (lf_up (m 91) C (1048576 * (m 92 W / 1048576) + 0)) (m 92) a (C + 1) W (lq_cb (m 92) W + e + 1) := by
        refine lq_T_pop (lq_T_em hT ⟨by omega, ?_, fun _ => by omega, fun _ => by omega, fun _ => by omega, fun _ _ _ => by omega⟩) (fun hj => ?_)
        · unfold lq_jp; omega
        · unfold lq_jp at hj; omega
      refine ih (C + 1) _ ⟨hM2, by rw [e91, e92]; exact hT2⟩ (fun C' W' m' g1 g2 g3 g4 g5 g6 => ?_)
      rw [e92] at g3 g5 g6
      refine hQ C' W' m' g1 (by omega) g3 g4 (fun i i1 i2 => ?_) g6
      by_cases e : i = W
      · rw [e]; exact hbn
      · exact g5 i i1 (by omega)
    have h25 : all ≠ 0 → (lq_top m (W + 1) < 4 ∨ 6 < lq_top m (W + 1)) → gx_to xs w0 (d + 1) yp_m181 25 [(0, .inr 86), (1, .inl all)] [.inl (lq_top m (W + 1))] m Q := fun hall hr =>
      gt181_25 (fun c => gc_top hM (hpop (by unfold lq_bn; omega))) (fun c => gc_top hM (gt181_33 (fun c' => hstop (fun _ => by unfold lq_bn; omega)) (fun c' => gc_top hM (hpop (by unfold lq_bn; omega)))))
    exact gt181_0 (gc_top hM (gt181_4 (fun _ c => hstop (fun h => absurd c h)) (fun c hall => gc_top hM (h25 hall (.inl c))) (fun c => gc_top hM (gt181_12 (fun c' => gc_top hM (hpop (by unfold lq_bn; omega))) (fun _ c' => hstop (fun h => absurd c' h)) (fun c' hall => gc_top hM (h25 hall (.inr c')))))))
def lq_p10 : Nat → Int
  | 0 => 1
  | k + 1 => 10 * lq_p10 k
theorem lq_p5 : ∀ k : Nat, k < 6 → lq_p10 k ≤ 100000 := by decide
theorem gl_num {m0 : gx_M} {N : Int} {a e C W : Nat} {from0 : Int} {dg : Prop} {s w : Nat → Int} (hQ0 : ∀ m', lq_F m0 a m' → Q (some 0) m') (hQ : ∀ m', lq_M m0 N a e C W m' → m' 91 = s → m' 92 = w → 0 ≤ m' 86 8 ∧ m' 86 8 ≤ 99999 → from0 ≤ m' 86 5 → (dg → from0 + 1 ≤ m' 86 5) → Q (some 1) m') : ∀ (j t : Nat) (m : gx_M), N - m 86 5 ≤ j → lq_M m0 N a e C W m → m 91 = s → m 92 = w → t ≤ 5 → m 86 5 = from0 + t → 0 ≤ from0 → 0 ≤ m 86 8 ∧ m 86 8 + 1 ≤ lq_p10 t → (t = 0 → dg → lq_dg m) → gx_to xs w0 (d + 2) yp_m177 10 [(0, .inr 86), (1, .inl from0)] [] m Q := by
  intro j
  induction j with
  | zero =>
    intro t m hj hM hs hw ht hP hf hn hd
    have hP0 := hM.P0
    have hp := lq_p5 t (by omega)
    refine gt177_10 (by omega) (gc_dg hM.1.1 (fun c => ?_) (fun c => gt177_14 hM.1.1 (by omega) (fun _ => hQ m hM hs hw (by omega) (by omega) (fun hdg => ?_)) (fun e => absurd rfl e) (fun e => absurd rfl e)))
    · have h1 := lq_here_lt (m := m) (by have := c.1; omega)
      have := hM.2.1
      omega
    · have : t ≠ 0 := fun e => c (hd e hdg)
      omega
  | succ j ih =>
    intro t m hj hM hs hw ht hP hf hn hd
    have hP0 := hM.P0
    have hp := lq_p5 t (by omega)
    refine gt177_10 (by omega) (gc_dg hM.1.1 (fun c => ?_) (fun c => gt177_14 hM.1.1 (by omega) (fun _ => hQ m hM hs hw (by omega) (by omega) (fun hdg => ?_)) (fun e => absurd rfl e) (fun e => absurd rfl e)))
    · have h1 := lq_here_lt (m := m) (by have := c.1; omega)
      have hN := hM.2.1
      refine gt177_14 hM.1.1 (by omega) (fun e => by omega) (fun _ c5 => gc_here hM.1.1 ?_) (fun _ _ => gc_wrong hM.1 (fun m' h => gt177_36 (.inl rfl) (hQ0 m' h)))
      have c1 := c.1
      have c2 := c.2
      refine gt177_49 hM.1.1 (by omega) ?_
      rw [gx_w_id (x := 10 * m 86 8) (by omega) (by omega), gx_w_id (x := 10 * m 86 8 + lq_here m) (by omega) (by omega), gx_w_id (x := 10 * m 86 8 + lq_here m - 48) (by omega) (by omega)]
      have h8 := lq_86_8 (v := 10 * m 86 8 + lq_here m - 48) hM (by omega)
      have h5 := lq_step_M (e' := e) h8 h1 (by omega)
      refine ih (t + 1) _ ?_ h5 ?_ ?_ (by omega) ?_ hf ?_ (fun e => by omega)
      · rw [show gx_u (gx_u m 86 8 (10 * m 86 8 + lq_here m - 48)) 86 5 (m 86 5 + 1) 86 5 = m 86 5 + 1 from gx_u_self]
        omega
      · rw [gx_u_off (by decide), gx_u_off (by decide)]; exact hs
      · rw [gx_u_off (by decide), gx_u_off (by decide)]; exact hw
      · rw [show gx_u (gx_u m 86 8 (10 * m 86 8 + lq_here m - 48)) 86 5 (m 86 5 + 1) 86 5 = m 86 5 + 1 from gx_u_self]
        omega
      · show 0 ≤ 10 * m 86 8 + lq_here m - 48 ∧ 10 * m 86 8 + lq_here m - 48 + 1 ≤ 10 * lq_p10 t
        omega
    · have : t ≠ 0 := fun e => c (hd e hdg)
      omega
theorem gc_num {m0 : gx_M} {N : Int} {a e C W : Nat} (hM : lq_M m0 N a e C W m) (hQ0 : ∀ m', lq_F m0 a m' → Q (some 0) m') (hQ : ∀ m', lq_M m0 N a e C W m' → m' 91 = m 91 → m' 92 = m 92 → 0 ≤ m' 86 8 ∧ m' 86 8 ≤ 99999 → m 86 5 ≤ m' 86 5 → (lq_dg m → m 86 5 + 1 ≤ m' 86 5) → Q (some 1) m') : gx_to xs w0 (d + 2) yp_m177 0 [(0, .inr 86)] [] m Q := by
  have hP := hM.P0
  have h8 := lq_86_8 (v := 0) hM (by omega)
  exact gt177_0 hM.1.1 (gl_num (e := e) (C := C) (W := W) (N := N) (dg := lq_dg m) (s := m 91) (w := m 92) hQ0 hQ (N - m 86 5).toNat 0 _ (by show N - m 86 5 ≤ _; omega) h8 (gx_u_off (by decide)) (gx_u_off (by decide)) (by omega) (by show m 86 5 = m 86 5 + ((0 : Nat) : Int); omega) hP.1 ⟨Int.le_refl _, Int.le_refl _⟩ (fun _ hd => hd))
theorem gc_fact {c : Int} (hQ : ∀ v, v = -1 ∨ (0 ≤ v ∧ v ≤ 13 ∧ c ≠ -1) → Q (some v) m) : gx_to xs w0 d yp_m179 0 [(0, .inl c)] [] m Q :=
  gt179_0 (fun _ => hQ _ (.inl rfl)) (fun _ => hQ _ (.inr (by omega))) (fun _ => hQ _ (.inl rfl)) (fun _ => hQ _ (.inr (by omega))) (fun _ => hQ _ (.inr (by omega))) (fun _ => hQ _ (.inr (by omega))) (fun _ => hQ _ (.inl rfl)) (fun _ => hQ _ (.inl rfl)) (fun _ => hQ _ (.inr (by omega))) (fun _ => hQ _ (.inl rfl)) (fun _ => hQ _ (.inl rfl)) (fun _ => hQ _ (.inr (by omega))) (fun _ => hQ _ (.inr (by omega))) (fun _ => hQ _ (.inr (by omega))) (fun _ => hQ _ (.inl rfl)) (fun _ => hQ _ (.inr (by omega))) (fun _ => hQ _ (.inr (by omega))) (fun _ => hQ _ (.inl rfl)) (fun _ => hQ _ (.inl rfl)) (fun _ => hQ _ (.inr (by omega))) (fun _ => hQ _ (.inr (by omega))) (fun _ => hQ _ (.inl rfl)) (fun _ => hQ _ (.inl rfl)) (fun _ => hQ _ (.inl rfl)) (fun _ => hQ _ (.inl rfl)) (fun _ => hQ _ (.inr (by omega))) (fun _ => hQ _ (.inr (by omega)))
def lq_so (x : Int) : Prop := lq_bn x ∨ x / 1048576 = 14
/-- above base lie signs of sums and open brackets alone; below it all is as it was -/
def lq_SS (base : Nat) (w1 w : Nat → Int) (W : Nat) : Prop := base ≤ W ∧ (∀ i, base ≤ i → i < W → lq_so (w i)) ∧ ∀ i, i < base → w i = w1 i
theorem lq_SS.push {base W : Nat} {w1 w : Nat → Int} {y : Int} (h : lq_SS base w1 w W) (hy : lq_so y) : lq_SS base w1 (lf_up w W y) (W + 1) := by
  obtain ⟨h1, h2, h3⟩ := h
  refine ⟨by omega, fun i i1 i2 => ?_, fun i hi => ?_⟩
  · by_cases e : i = W
    · rw [e, lf_up_eq]; exact hy
    · rw [lf_up_ne e]; exact h2 i i1 (by omega)
  · rw [lf_up_ne (by omega)]; exact h3 i hi
theorem gl_fac {m0 : gx_M} {N : Int} {a e base : Nat} {w1 : Nat → Int} {p0 : Int} (hQ0 : ∀ m', lq_F m0 a m' → Q (some 0) m') (hQ : ∀ C' W' m', lq_A m0 N a e C' W' m' → lq_SS base w1 (m' 92) W' → p0 ≤ m' 86 5 → Q (some 1) m') : ∀ (j C W : Nat) (m : gx_M), N - m 86 5 ≤ j → lq_B m0 N a e C W m → lq_SS base w1 (m 92) W → p0 ≤ m 86 5 → gx_to xs w0 (d + 3) yp_m174 0 [(0, .inr 86)] [] m Q := by
  intro j
  induction j with
  | zero =>
    intro C W m hj hB hS hp
    obtain ⟨hM, hT⟩ := hB
    have hnl : ¬ m 86 5 < m 86 6 := by have := hM.2.1; omega
    have hh : lq_here m = -1 := if_neg hnl
    refine gt174_0 (gc_here hM.1.1 (gt174_4 (fun _ => gc_dg hM.1.1 (fun c => ?_) (fun c => gt174_24 (fun _ => gc_here hM.1.1 (gt174_51 (gc_fact (fun v hv => ?_)))) (fun e => absurd rfl e))) (fun c => by omega)))
    · have := c.1; omega
    · rcases hv with rfl | hv
      · exact gt174_54 hM.1.1 (fun e => absurd rfl e) (fun _ => gc_wrong hM.1 (fun m' h => gt174_69 (.inl rfl) (hQ0 m' h)))
      · exact absurd hh hv.2.2
  | succ j ih =>
    intro C W m hj hB hS hp
    obtain ⟨hM, hT⟩ := hB
    have hP := hM.P0
    have hb := hM.C250
    refine gt174_0 (gc_here hM.1.1 (gt174_4 (fun _ => gc_dg hM.1.1 (fun c => gt174_24 (fun e => by omega) (fun _ => gc_num hM (fun m' h => gt174_31 (fun e => absurd rfl e) (fun _ => hQ0 m' h)) (fun m' g1 g2 g3 g4 g5 g6 => gt174_31 (fun _ => gc_note g1 (by omega) (by omega) (gt174_45 ?_)) (fun e => by omega)))) (fun c => gt174_24 (fun _ => gc_here hM.1.1 (gt174_51 (gc_fact (fun v hv => ?_)))) (fun e => absurd rfl e))) (fun c => ?_)))
    · have g7 := g6 c
      have hE := hM.2.2.2.2.2.1
      have hM2 := lq_note_M (x := 1048576 * 0 + m' 86 8) (e' := e) g1 (by omega) (by rw [g3]; omega)
      refine hQ _ _ _ ⟨hM2, ?_⟩ (by rw [lq_note92, g3]; exact hS) (by show p0 ≤ m' 86 5; omega)
      rw [lq_note91, lq_note92, g2, g3]
      refine lq_T_em hT ⟨by omega, by unfold lq_jp; omega, fun _ => rfl, fun _ => by omega, fun _ => by omega, fun _ _ _ => by omega⟩
    · rcases hv with rfl | hv
      · exact gt174_54 hM.1.1 (fun e => absurd rfl e) (fun _ => gc_wrong hM.1 (fun m' h => gt174_69 (.inl rfl) (hQ0 m' h)))
      · have hlt := lq_here_lt hv.2.2
        refine gt174_54 hM.1.1 (fun _ => gc_note hM (by omega) (by omega) (gt174_76 ?_ ?_)) (fun e => by omega)
        · exact ((hM.1.w91 hM.2.2.2.2.2.2.2 (by omega) (by omega) (by omega)).w86 (by omega) (by omega) (by omega)).1
        · have hM2 := lq_ns_M (x := 1048576 * 1 + v) hM hlt (by omega)
          have e91 : gx_u (lq_note m C (1048576 * 1 + v)) 86 5 (m 86 5 + 1) 91 = lf_up (m 91) C (1048576 * 1 + v) := by rw [gx_u_off (by decide), lq_note91]
          have e92 : gx_u (lq_note m C (1048576 * 1 + v)) 86 5 (m 86 5 + 1) 92 = m 92 := by rw [gx_u_off (by decide), lq_note92]
          refine hQ _ _ _ ⟨hM2, ?_⟩ (by show lq_SS base w1 (gx_u (lq_note m C (1048576 * 1 + v)) 86 5 (m 86 5 + 1) 92) W; rw [e92]; exact hS) (by show p0 ≤ gx_u _ 86 5 (m 86 5 + 1) 86 5; rw [gx_u_self]; omega)
          show lq_T (gx_u (lq_note m C (1048576 * 1 + v)) 86 5 (m 86 5 + 1) 91) (gx_u (lq_note m C (1048576 * 1 + v)) 86 5 (m 86 5 + 1) 92) a (C + 1) W (lq_cb (gx_u (lq_note m C (1048576 * 1 + v)) 86 5 (m 86 5 + 1) 92) W + e + 1)
          rw [e91, e92]
          exact lq_T_em hT ⟨by omega, by unfold lq_jp; omega, fun _ => by omega, fun _ => ⟨by omega, rfl⟩, fun _ => by omega, fun _ _ _ => by omega⟩
    · have hlt := lq_here_lt (m := m) (by omega)
      refine gc_opens (d := d + 1) hM hlt (by omega) (fun m' h => gt174_15 (fun e => absurd rfl e) (fun _ => hQ0 m' h)) (fun m' g1 g2 g3 g4 => gt174_15 (fun _ => ?_) (fun e => by omega))
      refine ih C (W + 1) m' (by omega) ⟨g1, ?_⟩ (by rw [g3]; exact hS.push (.inr (by omega))) (by omega)
      rw [g2, g3, lq_cb_up, lq_1b_f (by unfold lq_bn; omega)]
      exact lq_T_push hT (by unfold lq_jp; omega)
theorem gl_hos {m0 : gx_M} {N : Int} {a e C W base : Nat} (hM : lq_M m0 N a e C W m) (h0 : (∀ i, base ≤ i → i < W → m 92 i / 1048576 ≠ 14) → Q (some 0) m) (h1 : (∃ i, base ≤ i ∧ i < W ∧ m 92 i / 1048576 = 14) → Q (some 1) m) : ∀ (j k : Nat), W - k = j → base ≤ k → k ≤ W → (∀ i, base ≤ i → i < k → m 92 i / 1048576 ≠ 14) → gx_to xs w0 d yp_m183 2 [(0, .inr 86), (2, .inl (k : Int))] [] m Q := by
  have hb := hM.C250
  have hW := hM.2.2.2.1
  intro j
  induction j with
  | zero => exact fun k hj hk hkW hn => gt183_2 (by omega) (by omega) (fun _ => h0 (fun i i1 i2 => hn i i1 (by omega))) (fun c => by omega) (fun c => by omega)
  | succ j ih =>
    intro k hj hk hkW hn
    have hw := hM.2.2.2.2.2.2.1 k (by omega)
    have hr := gx_I_at hM.1.1 92 (z := (k : Int)) 0 259 (-2147483648) 2147483647 (by decide +kernel) (by omega) (by omega)
    rw [Int.toNat_natCast] at hr
    have e : gx_w (Int.tdiv (m 92 ((k : Int)).toNat) 1048576) = m 92 k / 1048576 := by
      rw [Int.toNat_natCast, Int.tdiv_eq_ediv_of_nonneg hw, gx_w_id (by omega) (by omega)]
    refine gt183_2 (by omega) (by omega) (fun c => by omega) (fun _ c => ?_) (fun _ c => h1 ⟨k, hk, by omega, by rw [e] at c; exact c⟩)
    rw [e] at c
    have := ih (k + 1) (by omega) (by omega) (by omega) (fun i i1 i2 => by
      by_cases e2 : i = k
      · rw [e2]; exact c
      · exact hn i i1 (by omega))
    rw [show ((k + 1 : Nat) : Int) = (k : Int) + 1 by omega] at this
    exact this
theorem gc_hos {m0 : gx_M} {N : Int} {a e C W base : Nat} (hM : lq_M m0 N a e C W m) (hbW : base ≤ W) (h0 : (∀ i, base ≤ i → i < W → m 92 i / 1048576 ≠ 14) → Q (some 0) m) (h1 : (∃ i, base ≤ i ∧ i < W ∧ m 92 i / 1048576 = 14) → Q (some 1) m) : gx_to xs w0 d yp_m183 0 [(0, .inr 86), (1, .inl (base : Int))] [] m Q := by
  have hb := hM.C250
  exact gt183_0 (by omega) (gl_hos hM h0 h1 (W - base) base rfl (Nat.le_refl _) hbW (fun i i1 i2 => by omega))
theorem gc_sign {c : Int} (hQ : ∀ v, v = -1 ∨ (2 ≤ v ∧ v ≤ 6 ∧ c ≠ -1) → Q (some v) m) : gx_to xs w0 d yp_m180 0 [(0, .inl c)] [] m Q :=
  gt180_0 (fun _ _ _ _ _ => hQ _ (.inl rfl)) (fun _ _ _ _ _ => hQ _ (.inr (by omega))) (fun _ _ _ _ => hQ _ (.inr (by omega))) (fun _ _ _ => hQ _ (.inr (by omega))) (fun _ _ => hQ _ (.inr (by omega))) (fun _ => hQ _ (.inr (by omega)))
theorem gl_sum14 {m0 : gx_M} {N : Int} {a e base : Nat} {w1 : Nat → Int} (hnb : ∀ i, i < base → ¬ lq_bn (w1 i)) {p0 : Int} (hQ0 : ∀ m', lq_F m0 a m' → Q (some 0) m') (hQ : ∀ C' m', lq_M m0 N a e C' base m' → lq_T (m' 91) (m' 92) a C' base (e + 1) → (∀ i, i < base → m' 92 i = w1 i) → p0 ≤ m' 86 5 → Q (some 1) m') : ∀ (j C W : Nat) (m : gx_M), N - m 86 5 ≤ j → lq_A m0 N a e C W m → lq_SS base w1 (m 92) W → p0 ≤ m 86 5 → gx_to xs w0 (d + 4) yp_m173 14 [(0, .inr 86), (1, .inl (base : Int))] [] m Q := by
  intro j
  induction j using Nat.strongRecOn with
  | _ j ih =>
    intro C W m hj hA hS hp
    have hM := hA.1
    have hP := hM.P0
    have hb := hM.C250
    have hN := hM.2.1
    -- what closing leaves
    have hge : ∀ W', (∀ i, W' ≤ i → i < W → lq_bn (m 92 i)) → base ≤ W' := fun W' h => by
      by_cases c : base ≤ W'
      · exact c
      · have := h W' (Nat.le_refl _) (by have := hS.1; omega)
        rw [hS.2.2 W' (by omega)] at this
        exact absurd this (hnb W' (by omega))
    have hlast : gx_to xs w0 (d + 3) yp_m183 0 [(0, .inr 86), (1, .inl (base : Int))] [] m (fun r m' => gx_to xs w0 (d + 4) yp_m173 143 [(0, .inr 86)] (gx_rs r ++ []) m' Q) :=
      gc_hos hM hS.1 (fun hno => gt173_143 hM.1.1 (fun _ => gc_close (d := d + 2) W C m hA (fun C' W' m' g1 g2 g3 g4 g5 g6 => gt173_161 (by
        have hW' := hge W' g5
        have e : W' = base := by
          by_cases c : W' = base
          · exact c
          · rcases g6 (by decide) with h | h
            · omega
            · rcases hS.2.1 (W' - 1) (by omega) (by omega) with h2 | h2
              · exact absurd h2 h
              · exact absurd h2 (hno (W' - 1) (by omega) (by omega))
        subst e
        have hcb : lq_cb (m' 92) W' = 0 := lq_cb0 W' (fun i hi => by rw [g3, hS.2.2 i hi]; exact hnb i hi)
        have hT := g1.2
        rw [hcb, Nat.zero_add] at hT
        exact hQ C' m' g1.1 hT (fun i hi => by rw [g3]; exact hS.2.2 i hi) (by omega)))) (fun e => absurd rfl e))
        (fun _ => gt173_143 hM.1.1 (fun e => by omega) (fun _ => gc_wrong hM.1 (fun m' h => gt173_155 (.inl rfl) (hQ0 m' h))))
    refine gt173_14 (gc_here hM.1.1 (gt173_18 (gc_sign (fun v hv => ?_))))
    have hsig : ∀ all : Int, 2 ≤ v → v ≤ 6 → lq_here m ≠ -1 → gx_to xs w0 (d + 3) yp_m181 0 [(0, .inr 86), (1, .inl all)] [] m (fun r m' => gx_to xs w0 (d + 4) yp_m173 41 [(0, .inr 86), (1, .inl (base : Int)), (2, .inl v)] (gx_rs r ++ []) m' Q) := fun all v1 v2 hne => by
      have hlt := lq_here_lt hne
      refine gc_close (d := d + 2) W C m hA (fun C' W' m' g1 g2 g3 g4 g5 g6 => ?_)
      have hb' := g1.1.C250
      have hW' := hge W' g5
      have e11 := g1.1.2.2.2.1
      have hN' := g1.1.2.1
      refine gt173_41 g1.1.1.1 (by omega) (by omega) ?_
      rw [e11, Int.toNat_natCast]
      have hpM := lq_push_M (y := 1048576 * v) g1.1 (by omega) (by omega)
      have hSS : lq_SS base w1 (lq_push m' W' (1048576 * v) 92) (W' + 1) := by
        rw [lq_push92, g3]
        exact lq_SS.push ⟨hW', fun i i1 i2 => hS.2.1 i i1 (by omega), hS.2.2⟩ (.inl (by unfold lq_bn; omega))
      have hpT : lq_T (lq_push m' W' (1048576 * v) 91) (lq_push m' W' (1048576 * v) 92) a C' (W' + 1) (lq_cb (lq_push m' W' (1048576 * v) 92) (W' + 1) + e) := by
        rw [lq_push91, lq_push92, lq_cb_up, lq_1b_t (by unfold lq_bn; omega)]
        have := lq_T_push (y := 1048576 * v) g1.2 (by unfold lq_jp; omega)
        rwa [show lq_cb (m' 92) W' + e + 1 = lq_cb (m' 92) W' + 1 + e by omega] at this
      have e5 : lq_push m' W' (1048576 * v) 86 5 = m' 86 5 + 1 := gx_u_self
      exact gl_fac (d := d) (p0 := m 86 5 + 1) (fun m2 h => gt173_78 (fun e => absurd rfl e) (fun _ => hQ0 m2 h)) (fun C2 W2 m2 k1 k2 k3 => gt173_78 (fun _ => ih (N - m2 86 5).toNat (by have := k1.1.P0; have := k1.1.2.1; omega) C2 W2 m2 (by omega) k1 k2 (by omega)) (fun e => by omega)) (N - m 86 5).toNat C' (W' + 1) _ (by show N - lq_push m' W' (1048576 * v) 86 5 ≤ _; rw [e5]; omega) ⟨hpM, hpT⟩ hSS (by show m 86 5 + 1 ≤ lq_push m' W' (1048576 * v) 86 5; rw [e5]; omega)
    rcases hv with rfl | ⟨v1, v2, hne⟩
    · refine gt173_21 (fun _ => gc_here hM.1.1 (gt173_87 (fun _ => hlast) (fun c => ?_))) (fun e => absurd rfl e) (fun e => absurd rfl e)
      have hlt := lq_here_lt (m := m) (by omega)
      refine gc_hos hM hS.1 (fun _ => gt173_97 (fun _ => hlast) (fun e => absurd rfl e)) (fun hex => gt173_97 (fun e => by omega) (fun _ => gc_close (d := d + 2) W C m hA (fun C' W' m' g1 g2 g3 g4 g5 g6 => ?_)))
      have hW' := hge W' g5
      obtain ⟨i0, i1, i2, i3⟩ := hex
      have hgt : base < W' := by
        by_cases c2 : base < W'
        · exact c2
        · have := g5 i0 (by omega) i2
          unfold lq_bn at this
          omega
      obtain ⟨W2, rfl⟩ : ∃ k, W' = k + 1 := ⟨W' - 1, by omega⟩
      have h14 : m 92 W2 / 1048576 = 14 := by
        rcases g6 (by decide) with h | h
        · omega
        · rcases hS.2.1 W2 (by omega) (by omega) with h2 | h2
          · exact absurd h2 h
          · exact h2
      have hb' := g1.1.C250
      have e11 := g1.1.2.2.2.1
      have hE := g1.1.2.2.2.2.2.1
      have hce : lq_ce (m' 92) (W2 + 1) = lq_ce (m' 92) W2 + lq_1e (m' 92 W2) := rfl
      refine gt173_105 g1.1.1.1 (by omega) ?_
      rw [show m' 86 11 - 1 = (W2 : Int) by omega]
      have hM2 := lq_pop_M (e' := e) g1.1 (by omega)
      have hM3 := lq_86_9 (v := gx_w (m' 86 9 - 1)) hM2 (gx_w_bd _)
      have hN' := g1.1.2.1
      have hM4 := lq_step_M (e' := e) hM3 (by show m' 86 5 < m' 86 6; omega) (by omega)
      have e91 : gx_u (gx_u (gx_u m' 86 11 (W2 : Int)) 86 9 (gx_w (m' 86 9 - 1))) 86 5 (m' 86 5 + 1) 91 = m' 91 := by rw [gx_u_off (by decide), gx_u_off (by decide), gx_u_off (by decide)]
      have e92 : gx_u (gx_u (gx_u m' 86 11 (W2 : Int)) 86 9 (gx_w (m' 86 9 - 1))) 86 5 (m' 86 5 + 1) 92 = m' 92 := by rw [gx_u_off (by decide), gx_u_off (by decide), gx_u_off (by decide)]
      have e5 : gx_u (gx_u (gx_u m' 86 11 (W2 : Int)) 86 9 (gx_w (m' 86 9 - 1))) 86 5 (m' 86 5 + 1) 86 5 = m' 86 5 + 1 := gx_u_self
      refine ih (N - (m' 86 5 + 1)).toNat (by omega) C' W2 _ (by rw [e5]; omega) ⟨hM4, ?_⟩ ?_ (by rw [e5]; omega)
      · rw [e91, e92]
        have hT := g1.2
        have hcb : lq_cb (m' 92) (W2 + 1) = lq_cb (m' 92) W2 := by
          show lq_cb (m' 92) W2 + lq_1b (m' 92 W2) = _
          rw [lq_1b_f (by rw [g3]; unfold lq_bn; omega)]
          rfl
        rw [hcb] at hT
        exact lq_T_pop hT (by rw [g3]; unfold lq_jp; omega)
      · rw [e92, g3]
        exact ⟨by omega, fun i i1 i2 => hS.2.1 i i1 (by omega), hS.2.2⟩
    · exact gt173_21 (fun e => by omega) (fun _ _ => hsig _ v1 v2 hne) (fun _ _ => hsig _ v1 v2 hne)
theorem gc_sum {m0 : gx_M} {N : Int} {a e C W : Nat} (hM : lq_M m0 N a e C W m) (hT : lq_T (m 91) (m 92) a C W e) (hnb : ∀ i, i < W → ¬ lq_bn (m 92 i)) (hQ0 : ∀ m', lq_F m0 a m' → Q (some 0) m') (hQ : ∀ C' m', lq_M m0 N a e C' W m' → lq_T (m' 91) (m' 92) a C' W (e + 1) → (∀ i, i < W → m' 92 i = m 92 i) → m 86 5 ≤ m' 86 5 → Q (some 1) m') : gx_to xs w0 (d + 4) yp_m173 0 [(0, .inr 86)] [] m Q := by
  have hcb : lq_cb (m 92) W = 0 := lq_cb0 W hnb
  have hW := hM.2.2.2.1
  have hP := hM.P0
  have hN := hM.2.1
  refine gt173_0 ?_
  rw [hW]
  exact gl_fac (d := d) (p0 := m 86 5) (base := W) (w1 := m 92) (fun m' h => gt173_9 (fun e => absurd rfl e) (fun _ => hQ0 m' h)) (fun C' W' m' g1 g2 g3 => gt173_9 (fun _ => gl_sum14 hnb hQ0 hQ (N - m' 86 5).toNat C' W' m' (by have := g1.1.2.1; omega) g1 g2 g3) (fun e => by omega)) (N - m 86 5).toNat C W m (by omega) ⟨hM, by rw [hcb, Nat.zero_add]; exact hT⟩ ⟨Nat.le_refl _, fun i i1 i2 => by omega, fun i _ => rfl⟩ (Int.le_refl _)
end GLE
