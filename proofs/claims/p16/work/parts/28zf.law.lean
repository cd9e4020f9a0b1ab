/-! law: conditions -/
section GLC
variable {xs : List Int32} {w0 : sx_W} {d : Nat} {Q : gx_Q} {m : gx_M}
theorem lq_F.at12 {m0 m : gx_M} {a : Nat} (h : lq_F m0 a m) : m 86 12 = m0 86 12 := h.2 86 12 (fun q hq => by
  simp only [lq_md, List.mem_cons, List.not_mem_nil, or_false] at hq
  rcases hq with rfl | rfl | rfl | rfl <;> simp)
/-- what waits in a condition: its first bracket below, no sign of a sum -/
def lq_WS (w : Nat → Int) (W : Nat) : Prop := 1 ≤ W ∧ w 0 / 1048576 = 13 ∧ ∀ i, i < W → ¬ lq_bn (w i)
theorem lq_WS.pop {w : Nat → Int} {W : Nat} (h : lq_WS w (W + 1)) (hW : w W / 1048576 ≠ 13) : lq_WS w W := by
  obtain ⟨h1, h2, h3⟩ := h
  refine ⟨?_, h2, fun i hi => h3 i (by omega)⟩
  by_cases e : W = 0
  · rw [e] at hW; exact absurd h2 hW
  · omega
theorem lq_WS.push {w : Nat → Int} {W : Nat} {y : Int} (h : lq_WS w W) (hy : ¬ lq_bn y) : lq_WS (lf_up w W y) (W + 1) := by
  obtain ⟨h1, h2, h3⟩ := h
  refine ⟨by omega, by rw [lf_up_ne (by omega)]; exact h2, fun i hi => ?_⟩
  by_cases e : i = W
  · rw [e, lf_up_eq]; exact hy
  · rw [lf_up_ne e]; exact h3 i (by omega)
def lq_K (m0 : gx_M) (N : Int) (a h C W : Nat) (m : gx_M) : Prop := lq_M m0 N a 0 C W m ∧ lq_T (m 91) (m 92) a C W h ∧ lq_WS (m 92) W
theorem gc_ends {m0 : gx_M} {N : Int} {a : Nat} : ∀ (W C : Nat) (m : gx_M), lq_K m0 N a 1 C W m → (∀ C' W' m', lq_K m0 N a 1 C' W' m' → m' 86 5 = m 86 5 → Q none m') → gx_to xs w0 (d + 1) yp_m186 0 [(0, .inr 86)] [] m Q := by
  intro W
  induction W with
  | zero => intro C m hK; exact absurd hK.2.2.1 (by omega)
  | succ W ih =>
    intro C m hK hQ
    obtain ⟨hM, hT, hS⟩ := hK
    have ht := lq_top_S m W
    refine gt186_0 (gc_top hM (gt186_4 (fun _ => hQ C (W + 1) m ⟨hM, hT, hS⟩ rfl) (fun c => gc_note hM (by omega) (by omega) (gt186_16 (by have := hM.C250; have := hM.2.2.2.1; show 0 ≤ m 86 11 ∧ m 86 11 ≤ 250; omega) ?_))))
    rw [ht] at c
    have e11 : lq_note m C (1048576 * 10 + 0) 86 11 - 1 = (W : Int) := by
      show m 86 11 - 1 = _
      have := hM.2.2.2.1
      omega
    rw [e11]
    have hM2 := lq_np_M (x := 1048576 * 10 + 0) hM (by omega) (if_pos (.inr c))
    have hM3 := lq_86_9 (v := gx_w (lq_note m C (1048576 * 10 + 0) 86 9 - 1)) hM2 (gx_w_bd _)
    have e91 : gx_u (gx_u (lq_note m C (1048576 * 10 + 0)) 86 11 (W : Int)) 86 9 (gx_w (lq_note m C (1048576 * 10 + 0) 86 9 - 1)) 91 = lf_up (m 91) C (1048576 * 10 + 0) := by rw [gx_u_off (by decide), gx_u_off (by decide), lq_note91]
    have e92 : gx_u (gx_u (lq_note m C (1048576 * 10 + 0)) 86 11 (W : Int)) 86 9 (gx_w (lq_note m C (1048576 * 10 + 0) 86 9 - 1)) 92 = m 92 := by rw [gx_u_off (by decide), gx_u_off (by decide), lq_note92]
    have hT2 : lq_T (lf_up (m 91) C (1048576 * 10 + 0)) (m 92) a (C + 1) W 1 := by
      refine lq_T_pop (lq_T_em hT ⟨by omega, ?_, fun _ => by omega, fun _ => by omega, fun _ => ⟨by omega, rfl⟩, fun _ _ _ => by omega⟩) (fun hj => ?_)
      · unfold lq_jp; omega
      · unfold lq_jp at hj; omega
    exact ih (C + 1) _ ⟨hM3, by rw [e91, e92]; exact hT2, by rw [e92]; exact hS.pop (by omega)⟩ (fun C' W' m' g1 g2 => hQ C' W' m' g1 g2)
theorem lq_patch_M {m0 : gx_M} {N : Int} {a C W k : Nat} {x : Int} (hM : lq_M m0 N a 0 C (W + 1) m) (hk : a ≤ k) (hkC : k < C) (hx : 0 ≤ x ∧ x ≤ 2147483647) : lq_M m0 N a 0 C W (gx_u (gx_u m 91 k x) 86 11 (W : Int)) := by
  have hb2 := hM.C250
  obtain ⟨hF, hN, hC, hW, hWP, hE, hw, ha⟩ := hM
  have hce : lq_ce (m 92) (W + 1) = lq_ce (m 92) W + lq_1e (m 92 W) := rfl
  have e92 : gx_u (gx_u m 91 k x) 86 11 (W : Int) 92 = m 92 := by rw [gx_u_off (by decide), gx_u_off (by decide)]
  refine ⟨(hF.w91 hk (by omega) (by omega) hx.2).w86 (by omega) (by omega) (by omega), hN, hC, gx_u_self, ?_, ?_, fun i hi => ?_, ha⟩
  · show (W : Int) ≤ m 86 5
    omega
  · rw [e92]
    show ((C + lq_ce (m 92) W + 0 : Nat) : Int) ≤ m 86 5
    omega
  · rw [e92]; exact hw i (by omega)
theorem gc_lands {m0 : gx_M} {N : Int} {a : Nat} {all : Int} {C : Nat} : ∀ (W : Nat) (m : gx_M), lq_K m0 N a 1 C W m → (∀ W' m', lq_K m0 N a 1 C W' m' → m' 86 5 = m 86 5 → (all ≠ 0 → ¬ lq_jp (m' 92 (W' - 1))) → Q none m') → gx_to xs w0 (d + 1) yp_m187 0 [(0, .inr 86), (1, .inl all)] [] m Q := by
  intro W
  induction W with
  | zero => intro m hK; exact absurd hK.2.2.1 (by omega)
  | succ W ih =>
    intro m hK hQ
    obtain ⟨hM, hT, hS⟩ := hK
    have ht := lq_top_S m W
    have hb := hM.C250
    have hC := hM.2.2.1
    have hW := hM.2.2.2.1
    have hpatch : lq_jp (m 92 W) → (0 ≤ Int.tmod (m 92 (m 86 11 - 1).toNat) 1048576 ∧ Int.tmod (m 92 (m 86 11 - 1).toNat) 1048576 < 260) ∧ gx_to xs w0 (d + 1) yp_m187 0 [(0, .inr 86), (1, .inl all)] [] (gx_u (gx_u m 91 (Int.tmod (m 92 ((m 86 11) - 1).toNat) 1048576).toNat (gx_w ((gx_w (1048576 * (gx_w (Int.tdiv (m 91 (Int.tmod (m 92 ((m 86 11) - 1).toNat) 1048576).toNat) 1048576)))) + (m 86 10)))) 86 11 ((m 86 11) - 1)) Q := fun hj => by
      obtain ⟨k, k1, k2, k3, k4, k5, hT2⟩ := lq_T_land hT hj (by omega)
      have hw := hM.2.2.2.2.2.2.1 W (by omega)
      have e1 : Int.tmod (m 92 (m 86 11 - 1).toNat) 1048576 = (k : Int) := by
        rw [hW, show (((W + 1 : Nat) : Int) - 1).toNat = W by omega, Int.tmod_eq_emod_of_nonneg hw, k1]
      have k5' := k5
      unfold lq_jp at k5'
      have e2 : gx_w ((gx_w (1048576 * (gx_w (Int.tdiv (m 91 k) 1048576)))) + (m 86 10)) = 1048576 * (m 91 k / 1048576) + (C : Int) := by
        rw [Int.tdiv_eq_ediv_of_nonneg k4, gx_w_id (x := m 91 k / 1048576) (by omega) (by omega), gx_w_id (x := 1048576 * (m 91 k / 1048576)) (by omega) (by omega), hC, gx_w_id (by omega) (by omega)]
      rw [e1]
      refine ⟨by omega, ?_⟩
      rw [Int.toNat_natCast, e2, hW, show ((W + 1 : Nat) : Int) - 1 = (W : Int) by omega]
      have hM2 := lq_patch_M (x := 1048576 * (m 91 k / 1048576) + (C : Int)) hM k2 k3 (by omega)
      have e91 : gx_u (gx_u m 91 k (1048576 * (m 91 k / 1048576) + (C : Int))) 86 11 (W : Int) 91 = lf_up (m 91) k (1048576 * (m 91 k / 1048576) + (C : Int)) := by rw [gx_u_off (by decide), gx_u_row]
      have e92 : gx_u (gx_u m 91 k (1048576 * (m 91 k / 1048576) + (C : Int))) 86 11 (W : Int) 92 = m 92 := by rw [gx_u_off (by decide), gx_u_off (by decide)]
      exact ih _ ⟨hM2, by rw [e91, e92]; exact hT2, by rw [e92]; exact hS.pop (by unfold lq_jp at hj; omega)⟩ (fun W' m' g1 g2 g3 => hQ W' m' g1 g2 g3)
    have hstop : (all ≠ 0 → ¬ lq_jp (m 92 W)) → Q none m := fun h => hQ (W + 1) m ⟨hM, hT, hS⟩ rfl h
    refine gt187_0 (gc_top hM (gt187_4 (by omega) (by omega) (fun _ => by omega) (fun c => ?_) (fun c => ?_) (fun c => ?_) (fun _ c => hstop (fun h => absurd c h)) (fun c call => gc_top hM (gt187_17 (by omega) (by omega) (fun c' => hstop (fun _ => ?_)) (fun _ => by omega) (fun c' => ?_) (fun c' => ?_) (fun c' => ?_)))))
    · exact (hpatch (.inl (by omega))).1
    · exact (hpatch (.inl (by omega))).1
    · exact (hpatch (.inl (by omega))).2
    · unfold lq_jp; omega
    · exact (hpatch (.inr (by omega))).1
    · exact (hpatch (.inr (by omega))).1
    · exact (hpatch (.inr (by omega))).2
theorem gc_jumps {m0 : gx_M} {N : Int} {a C W : Nat} {o : Int} (hK : lq_K m0 N a 1 C W m) (hlt : m 86 5 < m 86 6) (ho : 11 ≤ o ∧ o ≤ 12) (hQ : ∀ m', lq_K m0 N a 0 (C + 1) (W + 1) m' → m' 86 5 = m 86 5 + 1 → Q none m') : gx_to xs w0 (d + 1) yp_m188 0 [(0, .inr 86), (1, .inl o)] [] m Q := by
  obtain ⟨hM, hT, hS⟩ := hK
  have hb := hM.C250
  have hP := hM.P0
  obtain ⟨hF, hN, hC, hW, hWP, hE, hw, ha⟩ := hM
  refine gt188_0 ho (by omega) (by omega) ?_
  rw [hW, hC, Int.toNat_natCast]
  refine gt178_0 (by omega) (by omega) (by show 0 ≤ m 86 10 ∧ m 86 10 ≤ 250; omega) ?_
  have e10 : gx_u (gx_u m 92 W (1048576 * o + (C : Int))) 86 11 ((W : Int) + 1) 86 10 = (C : Int) := hC
  rw [e10, Int.toNat_natCast]
  have hF2 : lq_F m0 a (gx_u (gx_u (gx_u (gx_u m 92 W (1048576 * o + (C : Int))) 86 11 ((W : Int) + 1)) 91 C (1048576 * o + 0)) 86 10 ((C : Int) + 1)) := (((hF.w92 (by omega) (by omega) (by omega)).w86 (by omega) (by omega) (by omega)).w91 ha (by omega) (by omega) (by omega)).w86 (by omega) (by omega) (by omega)
  refine gt188_34 hF2.1 ?_
  have e5 : gx_u (gx_u (gx_u (gx_u m 92 W (1048576 * o + (C : Int))) 86 11 ((W : Int) + 1)) 91 C (1048576 * o + 0)) 86 10 ((C : Int) + 1) 86 5 = m 86 5 := rfl
  rw [e5]
  have e91 : gx_u (gx_u (gx_u (gx_u (gx_u m 92 W (1048576 * o + (C : Int))) 86 11 ((W : Int) + 1)) 91 C (1048576 * o + 0)) 86 10 ((C : Int) + 1)) 86 5 (m 86 5 + 1) 91 = lf_up (m 91) C (1048576 * o + 0) := by
    rw [gx_u_off (by decide), gx_u_off (by decide), gx_u_row, gx_u_off (by decide), gx_u_off (by decide)]
  have e92 : gx_u (gx_u (gx_u (gx_u (gx_u m 92 W (1048576 * o + (C : Int))) 86 11 ((W : Int) + 1)) 91 C (1048576 * o + 0)) 86 10 ((C : Int) + 1)) 86 5 (m 86 5 + 1) 92 = lf_up (m 92) W (1048576 * o + (C : Int)) := by
    rw [gx_u_off (by decide), gx_u_off (by decide), gx_u_off (by decide), gx_u_off (by decide), gx_u_row]
  have hce : lq_ce (lf_up (m 92) W (1048576 * o + (C : Int))) (W + 1) = lq_ce (m 92) W := by
    rw [lq_ce_up]
    have : lq_1e (1048576 * o + (C : Int)) = 0 := if_neg (by omega)
    omega
  refine hQ _ ⟨⟨hF2.w5 (by omega) (by omega), ⟨hN.1, hN.2.1, by rw [gx_u_self]; omega⟩, ?_, ?_, by rw [gx_u_self]; omega, by rw [gx_u_self, e92, hce]; omega, fun i hi => ?_, by omega⟩, ?_, ?_⟩ gx_u_self
  · show (C : Int) + 1 = _
    omega
  · show (W : Int) + 1 = _
    omega
  · rw [e92]
    by_cases e : i = W
    · rw [e, lf_up_eq]; omega
    · rw [lf_up_ne e]; exact hw i (by omega)
  · rw [e91, e92]
    exact lq_T_jump hT (by omega) (by unfold lq_jp; omega) (by unfold lq_jp; omega) (by omega)
  · rw [e92]
    exact hS.push (by unfold lq_bn; omega)
theorem gc_compared {m0 : gx_M} {N : Int} {a C W : Nat} (hK : lq_K m0 N a 0 C W m) (hQ0 : ∀ m', lq_F m0 a m' → Q (some 0) m') (hQ : ∀ C' W' m', lq_K m0 N a 1 C' W' m' → m 86 5 ≤ m' 86 5 → Q (some 1) m') : gx_to xs w0 (d + 5) yp_m185 0 [(0, .inr 86)] [] m Q := by
  obtain ⟨hM, hT, hS⟩ := hK
  refine gt185_0 (gc_sum (d := d) hM hT hS.2.2 (fun m' h => gt185_4 (fun e => absurd rfl e) (fun _ => hQ0 m' h)) (fun C1 m1 g1 g2 g3 g4 => gt185_4 (fun _ => ?_) (fun e => by omega)))
  have hS1 : lq_WS (m1 92) W := ⟨hS.1, by rw [g3 0 (by have := hS.1; omega)]; exact hS.2.1, fun i hi => by rw [g3 i hi]; exact hS.2.2 i hi⟩
  have hsec : ∀ how : Int, 7 ≤ how → how ≤ 9 → lq_here m1 ≠ -1 → gx_to xs w0 (d + 4) yp_m173 0 [(0, .inr 86)] [] (gx_u m1 86 5 (m1 86 5 + 1)) (fun r m' => gx_to xs w0 (d + 5) yp_m185 82 [(0, .inr 86), (1, .inl how)] (gx_rs r ++ []) m' Q) := fun how h1 h2 hne => by
    have hlt := lq_here_lt hne
    have hM1 := lq_step_M (e' := 1) g1 hlt (by omega)
    have e91 : gx_u m1 86 5 (m1 86 5 + 1) 91 = m1 91 := gx_u_off (by decide)
    have e92 : gx_u m1 86 5 (m1 86 5 + 1) 92 = m1 92 := gx_u_off (by decide)
    refine gc_sum (d := d) hM1 (by rw [e91, e92]; exact g2) (by rw [e92]; exact hS1.2.2) (fun m' h => gt185_82 (fun e => absurd rfl e) (fun _ => hQ0 m' h)) (fun C2 m2 k1 k2 k3 k4 => gt185_82 (fun _ => gc_note k1 (by omega) (by omega) (gt185_93 ?_)) (fun e => by omega))
    have hE := k1.2.2.2.2.2.1
    have hM3 := lq_note_M (x := 1048576 * how + 0) (e' := 0) k1 (by omega) (by omega)
    have hS2 : lq_WS (m2 92) W := ⟨hS1.1, by rw [k3 0 (by have := hS.1; omega), e92]; exact hS1.2.1, fun i hi => by rw [k3 i hi, e92]; exact hS1.2.2 i hi⟩
    rw [gx_u_self] at k4
    refine gc_ends (d := d + 3) W (C2 + 1) _ ⟨hM3, ?_, by rw [lq_note92]; exact hS2⟩ (fun C' W' m' j1 j2 => gt185_97 (hQ C' W' m' j1 (by rw [j2]; show m 86 5 ≤ m2 86 5; omega)))
    rw [lq_note91, lq_note92]
    exact lq_T_em k2 ⟨by omega, by unfold lq_jp; omega, fun _ => by omega, fun _ => by omega, fun _ => by omega, fun _ _ _ => by omega⟩
  exact gc_here g1.1.1 (gt185_13 g1.1.1 (fun _ => gc_here g1.1.1 (gt185_27 g1.1.1 (fun _ => gc_here g1.1.1 (gt185_41 g1.1.1 (fun _ => gc_wrong g1.1 (fun m' h => gt185_67 (.inl rfl) (hQ0 m' h))) (fun c => hsec 9 (by omega) (by omega) (by omega)))) (fun c => hsec 8 (by omega) (by omega) (by omega)))) (fun c => hsec 7 (by omega) (by omega) (by omega)))
theorem gl_cond {m0 : gx_M} {N : Int} {a : Nat} (hQ0 : ∀ m', lq_F m0 a m' → Q (some 0) m') (hQ : ∀ C' m', lq_M m0 N a 0 C' 0 m' → lq_T (m' 91) (m' 92) a C' 0 1 → Q (some 1) m') : ∀ (j : Nat), (∀ (C W : Nat) (m : gx_M), N - m 86 5 ≤ j → lq_K m0 N a 0 C W m → gx_to xs w0 (d + 6) yp_m184 40 [(0, .inr 86)] [] m Q) ∧ (∀ (C W : Nat) (m : gx_M), N - m 86 5 ≤ j → lq_K m0 N a 1 C W m → gx_to xs w0 (d + 6) yp_m184 92 [(0, .inr 86)] [] m Q) := by
  intro j
  induction j using Nat.strongRecOn with
  | _ j ih =>
    -- behind a comparison
    have h92 : ∀ (C W : Nat) (m : gx_M), N - m 86 5 ≤ j → lq_K m0 N a 1 C W m → gx_to xs w0 (d + 6) yp_m184 92 [(0, .inr 86)] [] m Q := by
      intro C W m hj hK
      have hM := hK.1
      have hN := hM.2.1
      have hP := hM.P0
      have hjmp : lq_here m ≠ -1 → ∀ s1 : Int, gx_to xs w0 (d + 6) yp_m184 185 [(0, .inr 86)] [.inl s1, .inr 86] m Q := fun hne s1 => by
        have hlt := lq_here_lt hne
        have hgo : ∀ all : Int, gx_to xs w0 (d + 5) yp_m187 0 [(0, .inr 86), (1, .inl all)] [] m (fun r m' => gx_to xs w0 (d + 6) yp_m184 198 [(0, .inr 86)] (gx_rs r ++ []) m' Q) := fun all =>
          gc_lands (d := d + 4) W m hK (fun W' m' g1 g2 g3 => gt184_198 (gc_here g1.1.1.1 (by
            have hN' := g1.1.2.1
            have hgo2 : ∀ o : Int, 11 ≤ o → o ≤ 12 → gx_to xs w0 (d + 5) yp_m188 0 [(0, .inr 86), (1, .inl o)] [] m' (fun r m2 => gx_to xs w0 (d + 6) yp_m184 218 [(0, .inr 86)] (gx_rs r ++ []) m2 Q) := fun o o1 o2 =>
              gc_jumps (d := d + 4) g1 (by omega) ⟨o1, o2⟩ (fun m2 k1 k2 => gt184_218 ((ih (N - m2 86 5).toNat (by have := k1.1.2.1; omega)).1 _ _ m2 (by have := k1.1.2.1; omega) k1))
            exact gt184_203 (fun _ => hgo2 12 (by omega) (by omega)) (fun _ => hgo2 11 (by omega) (by omega)))))
        exact gt184_185 (fun _ => hgo 0) (fun _ => hgo 1)
      refine gt184_92 (gc_here hM.1.1 (gt184_96 (fun _ => gc_here hM.1.1 (gt184_156 (fun c => gc_here hM.1.1 (hjmp (by omega) _)) (fun _ => gc_here hM.1.1 (gt184_165 hM.1.1 (fun c => gc_here hM.1.1 (hjmp (by omega) _)) (fun _ => gc_wrong hM.1 (fun m' h => gt184_179 (.inl rfl) (hQ0 m' h))))))) (fun c => ?_)))
      have hlt := lq_here_lt (m := m) (by omega)
      refine gc_lands (d := d + 4) W m hK (fun W' m' g1 g2 g3 => ?_)
      have hb' := g1.1.C250
      have e11 := g1.1.2.2.2.1
      have hN' := g1.1.2.1
      have hE := g1.1.2.2.2.2.2.1
      obtain ⟨W2, rfl⟩ : ∃ k, W' = k + 1 := ⟨W' - 1, by have := g1.2.2.1; omega⟩
      have hnj : ¬ lq_jp (m' 92 W2) := g3 (by decide)
      have hce : lq_ce (m' 92) (W2 + 1) = lq_ce (m' 92) W2 + lq_1e (m' 92 W2) := rfl
      have hM2 := lq_pop_M (e' := 0) g1.1 (by omega)
      have hM3 := lq_86_9 (v := gx_w (m' 86 9 - 1)) hM2 (gx_w_bd _)
      have hM4 := lq_step_M (e' := 0) hM3 (by show m' 86 5 < m' 86 6; omega) (by omega)
      have e91 : gx_u (gx_u (gx_u m' 86 11 (W2 : Int)) 86 9 (gx_w (m' 86 9 - 1))) 86 5 (m' 86 5 + 1) 91 = m' 91 := by rw [gx_u_off (by decide), gx_u_off (by decide), gx_u_off (by decide)]
      have e92 : gx_u (gx_u (gx_u m' 86 11 (W2 : Int)) 86 9 (gx_w (m' 86 9 - 1))) 86 5 (m' 86 5 + 1) 92 = m' 92 := by rw [gx_u_off (by decide), gx_u_off (by decide), gx_u_off (by decide)]
      have e5 : gx_u (gx_u (gx_u m' 86 11 (W2 : Int)) 86 9 (gx_w (m' 86 9 - 1))) 86 5 (m' 86 5 + 1) 86 5 = m' 86 5 + 1 := gx_u_self
      have hT2 := lq_T_pop g1.2.1 hnj
      have e1 : m' 86 11 - 1 = (W2 : Int) := by omega
      refine gt184_106 g1.1.1.1 (by omega) (fun c1 => ?_) (fun c1 => ?_)
      · rw [e1] at c1 ⊢
        refine gc_ends (d := d + 4) W2 C _ ⟨hM4, by rw [e91, e92]; exact hT2, by rw [e92]; exact ⟨by omega, g1.2.2.2.1, fun i hi => g1.2.2.2.2 i (by omega)⟩⟩ (fun C3 W3 m3 k1 k2 => gt184_149 ?_)
        rw [e5] at k2
        exact (ih (N - m3 86 5).toNat (by have := k1.1.2.1; omega)).2 _ _ m3 (by have := k1.1.2.1; omega) k1
      · rw [e1] at c1 ⊢
        have ew : W2 = 0 := by omega
        subst ew
        exact hQ C _ hM4 (by show lq_T (gx_u (gx_u (gx_u m' 86 11 ((0 : Nat) : Int)) 86 9 (gx_w (m' 86 9 - 1))) 86 5 (m' 86 5 + 1) 91) (gx_u (gx_u (gx_u m' 86 11 ((0 : Nat) : Int)) 86 9 (gx_w (m' 86 9 - 1))) 86 5 (m' 86 5 + 1) 92) a C 0 1; rw [e91, e92]; exact hT2)
    refine ⟨fun C W m hj hK => ?_, h92⟩
    have hM := hK.1
    have hN := hM.2.1
    have hP := hM.P0
    have hopen : lq_here m ≠ -1 → ∀ s1 : Int, gx_to xs w0 (d + 6) yp_m184 63 [(0, .inr 86)] [.inl s1, .inr 86] m Q := fun hne s1 => by
      have hlt := lq_here_lt hne
      have hgo : ∀ o : Int, o = 13 ∨ o = 10 → gx_to xs w0 (d + 5) yp_m175 0 [(0, .inr 86), (1, .inl o)] [] m (fun r m' => gx_to xs w0 (d + 6) yp_m184 78 [(0, .inr 86)] (gx_rs r ++ []) m' Q) := fun o ho =>
        gc_opens (d := d + 4) hM hlt (by omega) (fun m' h => gt184_78 (fun e => absurd rfl e) (fun _ => hQ0 m' h)) (fun m' g1 g2 g3 g4 => gt184_78 (fun _ => (ih (N - m' 86 5).toNat (by have := g1.2.1; omega)).1 _ _ m' (by have := g1.2.1; omega) ⟨g1, by rw [g2, g3]; exact lq_T_push hK.2.1 (by unfold lq_jp; omega), by rw [g3]; exact hK.2.2.push (by unfold lq_bn; omega)⟩) (fun e => by omega))
      exact gt184_63 (fun _ => hgo 13 (.inl rfl)) (fun _ => hgo 10 (.inr rfl))
    exact gt184_40 (gc_here hM.1.1 (gt184_44 (fun c => gc_here hM.1.1 (hopen (by omega) _)) (fun _ => gc_here hM.1.1 (gt184_53 (fun _ => gc_compared (d := d) hK (fun m' h => gt184_87 (fun e => absurd rfl e) (fun _ => hQ0 m' h)) (fun C' W' m' g1 g2 => gt184_87 (fun _ => h92 C' W' m' (by omega) g1) (fun e => by omega))) (fun c => gc_here hM.1.1 (hopen (by omega) _))))))
theorem gc_cond {N : Int} {C : Nat} (hI : gx_I m) (hN : m 86 6 = N ∧ N ≤ 240 ∧ m 86 5 ≤ N) (hC : m 86 10 = (C : Int)) (hCP : (C : Int) ≤ m 86 5) (hQ0 : ∀ m', lq_F m C m' → Q (some 0) m') (hQ : ∀ C' m', lq_M m N C 0 C' 0 m' → lq_T (m' 91) (m' 92) C C' 0 1 → Q (some 1) m') : gx_to xs w0 (d + 6) yp_m184 0 [(0, .inr 86)] [] m Q := by
  have hF : lq_F m C m := ⟨hI, gx_fw.rf⟩
  have hF2 : lq_F m C (gx_u (gx_u m 86 9 0) 86 11 0) := (hF.w86 (by omega) (by omega) (by omega)).w86 (by omega) (by omega) (by omega)
  have e91 : gx_u (gx_u m 86 9 0) 86 11 0 91 = m 91 := by rw [gx_u_off (by decide), gx_u_off (by decide)]
  have e92 : gx_u (gx_u m 86 9 0) 86 11 0 92 = m 92 := by rw [gx_u_off (by decide), gx_u_off (by decide)]
  have hM : lq_M m N C 0 C 0 (gx_u (gx_u m 86 9 0) 86 11 0) := ⟨hF2, hN, hC, gx_u_self, by show ((0 : Nat) : Int) ≤ m 86 5; omega, by show ((C + 0 + 0 : Nat) : Int) ≤ m 86 5; omega, fun i hi => absurd hi (Nat.not_lt_zero _), Nat.le_refl _⟩
  refine gt184_0 (gc_here hI (gt184_4 hI (fun c => ?_) (fun _ => gc_wrong hF (fun m' h => gt184_18 (.inl rfl) (hQ0 m' h)))))
  have hlt := lq_here_lt (m := m) (by omega)
  refine gc_opens (d := d + 4) hM hlt (by omega) (fun m' h => gt184_35 (fun e => absurd rfl e) (fun _ => hQ0 m' h)) (fun m' g1 g2 g3 g4 => gt184_35 (fun _ => ?_) (fun e => by omega))
  refine (gl_cond (d := d) hQ0 hQ (N - m' 86 5).toNat).1 C 1 m' (by omega) ⟨g1, ?_, ?_⟩
  · rw [g2, g3]
    exact lq_T_push (lq_T_0 _ _ _) (by unfold lq_jp; omega)
  · rw [g3]
    refine ⟨Nat.le_refl _, ?_, fun i hi => ?_⟩
    · rw [lf_up_eq]; omega
    · have e : i = 0 := by omega
      rw [e, lf_up_eq]
      unfold lq_bn; omega
end GLC
